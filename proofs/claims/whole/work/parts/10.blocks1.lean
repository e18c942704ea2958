/-! BLOCK EQUATIONS (printed by wip/whole/bgen.py 10-60) -/
-- FaultLists$Cells.<init>(I)V
set_option maxRecDepth 100000 in
theorem fbE_10 (h : fl_H) (this : Nat) (p0 : Int32) : fl_cl fl_C 10 [.ref this, .int p0] h = if (decide (0 ≤ p0)) = true then (if (h.1.2.2.2 && decide (h.1.1 < 1000000) && decide (¬ p0 < 0) && decide (Int32.toNatClampNeg p0 < 100000)) = true then (if (decide (fl_k (fl_mk h (3, Int32.toNatClampNeg p0) (Int32.toNatClampNeg p0)) this = (1, 1)) && decide (h.1.1 < (fl_mk h (3, Int32.toNatClampNeg p0) (Int32.toNatClampNeg p0)).1.1)) = true then (fl_Rn fl_C 10 19 [] [] (fl_sr (fl_mk h (3, Int32.toNatClampNeg p0) (Int32.toNatClampNeg p0)) this 0 h.1.1)) else none) else none) else (if (h.1.2.2.2 && decide (h.1.1 < 1000000) && decide (¬ (0 : Int32) < 0) && decide (Int32.toNatClampNeg 0 < 100000)) = true then (if (decide (fl_k (fl_mk h (3, Int32.toNatClampNeg 0) (Int32.toNatClampNeg 0)) this = (1, 1)) && decide (h.1.1 < (fl_mk h (3, Int32.toNatClampNeg 0) (Int32.toNatClampNeg 0)).1.1)) = true then (fl_Rn fl_C 10 19 [] [] (fl_sr (fl_mk h (3, Int32.toNatClampNeg 0) (Int32.toNatClampNeg 0)) this 0 h.1.1)) else none) else none) := (fl_run_eq fl_C 400 10 0 _ _ _).trans rfl
set_option maxRecDepth 100000 in
theorem fbC_10_19 (h : fl_H) : fl_Rn fl_C 10 19 [] [] h = some (some none, h) := (fl_run_eq fl_C 400 10 19 _ _ _).trans rfl
-- FaultLists$Pile.<init>(I)V
set_option maxRecDepth 100000 in
theorem fbE_11 (h : fl_H) (this : Nat) (p0 : Int32) : fl_cl fl_C 11 [.ref this, .int p0] h = if (decide (fl_k h this = (1, 5))) = true then (fl_Rn fl_C 11 9 [some (.ref this), some (.int p0)] [] (fl_si h this 1 p0)) else none := (fl_run_eq fl_C 400 11 0 _ _ _).trans rfl
set_option maxRecDepth 100000 in
theorem fbC_11_9 (h : fl_H) (v0 : Nat) (v1 : Int32) : fl_Rn fl_C 11 9 [some (.ref v0), some (.int v1)] [] h = if (h.1.2.2.2 && decide (h.1.1 < 1000000)) = true then (fl_ca fl_C 11 18 [] [.ref h.1.1, .ref v0] [] (fl_cl fl_C 10 [.ref h.1.1, .int v1] (fl_mk h (1, 1) 1))) else none := (fl_run_eq fl_C 400 11 9 _ _ _).trans rfl
set_option maxRecDepth 100000 in
theorem fbC_11_21 (h : fl_H) : fl_Rn fl_C 11 21 [] [] h = some (some none, h) := (fl_run_eq fl_C 400 11 21 _ _ _).trans rfl
set_option maxRecDepth 100000 in
theorem fbP_11_18 (h : fl_H) (s0 : Nat) (s1 : Nat) : fl_ca fl_C 11 18 [] [.ref s0, .ref s1] [] (some (some none, h)) = if (decide (fl_k h s1 = (1, 5)) && decide (s0 < (h).1.1)) = true then (fl_Rn fl_C 11 21 [] [] (fl_sr h s1 0 s0)) else none := (fl_run_eq fl_C 400 11 18 _ _ _).trans rfl
-- FaultLists$Net.<init>()V
set_option maxRecDepth 100000 in
theorem fbE_12 (h : fl_H) (this : Nat) : fl_cl fl_C 12 [.ref this] h = if (h.1.2.2.2 && decide (h.1.1 < 1000000)) = true then (fl_ca fl_C 12 14 [some (.ref this)] [.ref h.1.1, .ref this] [] (fl_cl fl_C 10 [.ref h.1.1, .int 12] (fl_mk h (1, 1) 1))) else none := (fl_run_eq fl_C 400 12 0 _ _ _).trans rfl
set_option maxRecDepth 100000 in
theorem fbC_12_17 (h : fl_H) (v0 : Nat) : fl_Rn fl_C 12 17 [some (.ref v0)] [] h = if (h.1.2.2.2 && decide (h.1.1 < 1000000)) = true then (fl_ca fl_C 12 27 [some (.ref v0)] [.ref h.1.1, .ref v0] [] (fl_cl fl_C 10 [.ref h.1.1, .int 12] (fl_mk h (1, 1) 1))) else none := (fl_run_eq fl_C 400 12 17 _ _ _).trans rfl
set_option maxRecDepth 100000 in
theorem fbC_12_30 (h : fl_H) (v0 : Nat) : fl_Rn fl_C 12 30 [some (.ref v0)] [] h = if (h.1.2.2.2 && decide (h.1.1 < 1000000)) = true then (fl_ca fl_C 12 40 [some (.ref v0)] [.ref h.1.1, .ref v0] [] (fl_cl fl_C 10 [.ref h.1.1, .int 12] (fl_mk h (1, 1) 1))) else none := (fl_run_eq fl_C 400 12 30 _ _ _).trans rfl
set_option maxRecDepth 100000 in
theorem fbC_12_43 (h : fl_H) (v0 : Nat) : fl_Rn fl_C 12 43 [some (.ref v0)] [] h = if (h.1.2.2.2 && decide (h.1.1 < 1000000)) = true then (fl_ca fl_C 12 53 [some (.ref v0)] [.ref h.1.1, .ref v0] [] (fl_cl fl_C 10 [.ref h.1.1, .int 12] (fl_mk h (1, 1) 1))) else none := (fl_run_eq fl_C 400 12 43 _ _ _).trans rfl
set_option maxRecDepth 100000 in
theorem fbC_12_56 (h : fl_H) (v0 : Nat) : fl_Rn fl_C 12 56 [some (.ref v0)] [] h = if (h.1.2.2.2 && decide (h.1.1 < 1000000)) = true then (fl_ca fl_C 12 66 [some (.ref v0)] [.ref h.1.1, .ref v0] [] (fl_cl fl_C 10 [.ref h.1.1, .int 20] (fl_mk h (1, 1) 1))) else none := (fl_run_eq fl_C 400 12 56 _ _ _).trans rfl
set_option maxRecDepth 100000 in
theorem fbC_12_69 (h : fl_H) (v0 : Nat) : fl_Rn fl_C 12 69 [some (.ref v0)] [] h = if (h.1.2.2.2 && decide (h.1.1 < 1000000)) = true then (fl_ca fl_C 12 78 [] [.ref h.1.1, .ref v0] [] (fl_cl fl_C 10 [.ref h.1.1, .int 4] (fl_mk h (1, 1) 1))) else none := (fl_run_eq fl_C 400 12 69 _ _ _).trans rfl
set_option maxRecDepth 100000 in
theorem fbC_12_81 (h : fl_H) : fl_Rn fl_C 12 81 [] [] h = some (some none, h) := (fl_run_eq fl_C 400 12 81 _ _ _).trans rfl
set_option maxRecDepth 100000 in
theorem fbP_12_14 (h : fl_H) (v0 : Nat) (s0 : Nat) (s1 : Nat) : fl_ca fl_C 12 14 [some (.ref v0)] [.ref s0, .ref s1] [] (some (some none, h)) = if (decide (fl_k h s1 = (1, 4)) && decide (s0 < (h).1.1)) = true then (fl_Rn fl_C 12 17 [some (.ref v0)] [] (fl_sr h s1 5 s0)) else none := (fl_run_eq fl_C 400 12 14 _ _ _).trans rfl
set_option maxRecDepth 100000 in
theorem fbP_12_27 (h : fl_H) (v0 : Nat) (s0 : Nat) (s1 : Nat) : fl_ca fl_C 12 27 [some (.ref v0)] [.ref s0, .ref s1] [] (some (some none, h)) = if (decide (fl_k h s1 = (1, 4)) && decide (s0 < (h).1.1)) = true then (fl_Rn fl_C 12 30 [some (.ref v0)] [] (fl_sr h s1 6 s0)) else none := (fl_run_eq fl_C 400 12 27 _ _ _).trans rfl
set_option maxRecDepth 100000 in
theorem fbP_12_40 (h : fl_H) (v0 : Nat) (s0 : Nat) (s1 : Nat) : fl_ca fl_C 12 40 [some (.ref v0)] [.ref s0, .ref s1] [] (some (some none, h)) = if (decide (fl_k h s1 = (1, 4)) && decide (s0 < (h).1.1)) = true then (fl_Rn fl_C 12 43 [some (.ref v0)] [] (fl_sr h s1 7 s0)) else none := (fl_run_eq fl_C 400 12 40 _ _ _).trans rfl
set_option maxRecDepth 100000 in
theorem fbP_12_53 (h : fl_H) (v0 : Nat) (s0 : Nat) (s1 : Nat) : fl_ca fl_C 12 53 [some (.ref v0)] [.ref s0, .ref s1] [] (some (some none, h)) = if (decide (fl_k h s1 = (1, 4)) && decide (s0 < (h).1.1)) = true then (fl_Rn fl_C 12 56 [some (.ref v0)] [] (fl_sr h s1 8 s0)) else none := (fl_run_eq fl_C 400 12 53 _ _ _).trans rfl
set_option maxRecDepth 100000 in
theorem fbP_12_66 (h : fl_H) (v0 : Nat) (s0 : Nat) (s1 : Nat) : fl_ca fl_C 12 66 [some (.ref v0)] [.ref s0, .ref s1] [] (some (some none, h)) = if (decide (fl_k h s1 = (1, 4)) && decide (s0 < (h).1.1)) = true then (fl_Rn fl_C 12 69 [some (.ref v0)] [] (fl_sr h s1 9 s0)) else none := (fl_run_eq fl_C 400 12 66 _ _ _).trans rfl
set_option maxRecDepth 100000 in
theorem fbP_12_78 (h : fl_H) (s0 : Nat) (s1 : Nat) : fl_ca fl_C 12 78 [] [.ref s0, .ref s1] [] (some (some none, h)) = if (decide (fl_k h s1 = (1, 4)) && decide (s0 < (h).1.1)) = true then (fl_Rn fl_C 12 81 [] [] (fl_sr h s1 10 s0)) else none := (fl_run_eq fl_C 400 12 78 _ _ _).trans rfl
-- FaultLists$Reader.<init>()V
set_option maxRecDepth 100000 in
theorem fbE_13 (h : fl_H) (this : Nat) : fl_cl fl_C 13 [.ref this] h = if (h.1.2.2.2 && decide (h.1.1 < 1000000)) = true then (fl_ca fl_C 13 12 [some (.ref this)] [.ref h.1.1, .ref this] [] (fl_cl fl_C 12 [.ref h.1.1] (fl_mk h (1, 4) 11))) else none := (fl_run_eq fl_C 400 13 0 _ _ _).trans rfl
set_option maxRecDepth 100000 in
theorem fbC_13_15 (h : fl_H) (v0 : Nat) : fl_Rn fl_C 13 15 [some (.ref v0)] [] h = if (h.1.2.2.2 && decide (h.1.1 < 1000000)) = true then (fl_ca fl_C 13 24 [some (.ref v0)] [.ref h.1.1, .ref v0] [] (fl_cl fl_C 11 [.ref h.1.1, .int 4] (fl_mk h (1, 5) 3))) else none := (fl_run_eq fl_C 400 13 15 _ _ _).trans rfl
set_option maxRecDepth 100000 in
theorem fbC_13_27 (h : fl_H) (v0 : Nat) : fl_Rn fl_C 13 27 [some (.ref v0)] [] h = if (h.1.2.2.2 && decide (h.1.1 < 1000000)) = true then (fl_ca fl_C 13 36 [] [.ref h.1.1, .ref v0] [] (fl_cl fl_C 11 [.ref h.1.1, .int 4] (fl_mk h (1, 5) 3))) else none := (fl_run_eq fl_C 400 13 27 _ _ _).trans rfl
set_option maxRecDepth 100000 in
theorem fbC_13_39 (h : fl_H) : fl_Rn fl_C 13 39 [] [] h = some (some none, h) := (fl_run_eq fl_C 400 13 39 _ _ _).trans rfl
set_option maxRecDepth 100000 in
theorem fbP_13_12 (h : fl_H) (v0 : Nat) (s0 : Nat) (s1 : Nat) : fl_ca fl_C 13 12 [some (.ref v0)] [.ref s0, .ref s1] [] (some (some none, h)) = if (decide (fl_k h s1 = (1, 6)) && decide (s0 < (h).1.1)) = true then (fl_Rn fl_C 13 15 [some (.ref v0)] [] (fl_sr h s1 0 s0)) else none := (fl_run_eq fl_C 400 13 12 _ _ _).trans rfl
set_option maxRecDepth 100000 in
theorem fbP_13_24 (h : fl_H) (v0 : Nat) (s0 : Nat) (s1 : Nat) : fl_ca fl_C 13 24 [some (.ref v0)] [.ref s0, .ref s1] [] (some (some none, h)) = if (decide (fl_k h s1 = (1, 6)) && decide (s0 < (h).1.1)) = true then (fl_Rn fl_C 13 27 [some (.ref v0)] [] (fl_sr h s1 1 s0)) else none := (fl_run_eq fl_C 400 13 24 _ _ _).trans rfl
set_option maxRecDepth 100000 in
theorem fbP_13_36 (h : fl_H) (s0 : Nat) (s1 : Nat) : fl_ca fl_C 13 36 [] [.ref s0, .ref s1] [] (some (some none, h)) = if (decide (fl_k h s1 = (1, 6)) && decide (s0 < (h).1.1)) = true then (fl_Rn fl_C 13 39 [] [] (fl_sr h s1 2 s0)) else none := (fl_run_eq fl_C 400 13 36 _ _ _).trans rfl
-- FaultLists$Side.<init>()V
set_option maxRecDepth 100000 in
theorem fbE_14 (h : fl_H) (this : Nat) : fl_cl fl_C 14 [.ref this] h = if (h.1.2.2.2 && decide (h.1.1 < 1000000)) = true then (fl_ca fl_C 14 14 [some (.ref this)] [.ref h.1.1, .ref this] [] (fl_cl fl_C 10 [.ref h.1.1, .int 12] (fl_mk h (1, 1) 1))) else none := (fl_run_eq fl_C 400 14 0 _ _ _).trans rfl
set_option maxRecDepth 100000 in
theorem fbC_14_17 (h : fl_H) (v0 : Nat) : fl_Rn fl_C 14 17 [some (.ref v0)] [] h = if (h.1.2.2.2 && decide (h.1.1 < 1000000)) = true then (fl_ca fl_C 14 27 [some (.ref v0)] [.ref h.1.1, .ref v0] [] (fl_cl fl_C 10 [.ref h.1.1, .int 12] (fl_mk h (1, 1) 1))) else none := (fl_run_eq fl_C 400 14 17 _ _ _).trans rfl
set_option maxRecDepth 100000 in
theorem fbC_14_30 (h : fl_H) (v0 : Nat) : fl_Rn fl_C 14 30 [some (.ref v0)] [] h = if (h.1.2.2.2 && decide (h.1.1 < 1000000)) = true then (fl_ca fl_C 14 40 [some (.ref v0)] [.ref h.1.1, .ref v0] [] (fl_cl fl_C 10 [.ref h.1.1, .int 12] (fl_mk h (1, 1) 1))) else none := (fl_run_eq fl_C 400 14 30 _ _ _).trans rfl
set_option maxRecDepth 100000 in
theorem fbC_14_43 (h : fl_H) (v0 : Nat) : fl_Rn fl_C 14 43 [some (.ref v0)] [] h = if (h.1.2.2.2 && decide (h.1.1 < 1000000)) = true then (fl_ca fl_C 14 53 [] [.ref h.1.1, .ref v0] [] (fl_cl fl_C 10 [.ref h.1.1, .int 12] (fl_mk h (1, 1) 1))) else none := (fl_run_eq fl_C 400 14 43 _ _ _).trans rfl
set_option maxRecDepth 100000 in
theorem fbC_14_56 (h : fl_H) : fl_Rn fl_C 14 56 [] [] h = some (some none, h) := (fl_run_eq fl_C 400 14 56 _ _ _).trans rfl
set_option maxRecDepth 100000 in
theorem fbP_14_14 (h : fl_H) (v0 : Nat) (s0 : Nat) (s1 : Nat) : fl_ca fl_C 14 14 [some (.ref v0)] [.ref s0, .ref s1] [] (some (some none, h)) = if (decide (fl_k h s1 = (1, 9)) && decide (s0 < (h).1.1)) = true then (fl_Rn fl_C 14 17 [some (.ref v0)] [] (fl_sr h s1 0 s0)) else none := (fl_run_eq fl_C 400 14 14 _ _ _).trans rfl
set_option maxRecDepth 100000 in
theorem fbP_14_27 (h : fl_H) (v0 : Nat) (s0 : Nat) (s1 : Nat) : fl_ca fl_C 14 27 [some (.ref v0)] [.ref s0, .ref s1] [] (some (some none, h)) = if (decide (fl_k h s1 = (1, 9)) && decide (s0 < (h).1.1)) = true then (fl_Rn fl_C 14 30 [some (.ref v0)] [] (fl_sr h s1 1 s0)) else none := (fl_run_eq fl_C 400 14 27 _ _ _).trans rfl
set_option maxRecDepth 100000 in
theorem fbP_14_40 (h : fl_H) (v0 : Nat) (s0 : Nat) (s1 : Nat) : fl_ca fl_C 14 40 [some (.ref v0)] [.ref s0, .ref s1] [] (some (some none, h)) = if (decide (fl_k h s1 = (1, 9)) && decide (s0 < (h).1.1)) = true then (fl_Rn fl_C 14 43 [some (.ref v0)] [] (fl_sr h s1 2 s0)) else none := (fl_run_eq fl_C 400 14 40 _ _ _).trans rfl
set_option maxRecDepth 100000 in
theorem fbP_14_53 (h : fl_H) (s0 : Nat) (s1 : Nat) : fl_ca fl_C 14 53 [] [.ref s0, .ref s1] [] (some (some none, h)) = if (decide (fl_k h s1 = (1, 9)) && decide (s0 < (h).1.1)) = true then (fl_Rn fl_C 14 56 [] [] (fl_sr h s1 3 s0)) else none := (fl_run_eq fl_C 400 14 53 _ _ _).trans rfl
-- FaultLists$Bench.<init>()V
set_option maxRecDepth 100000 in
theorem fbE_15 (h : fl_H) (this : Nat) : fl_cl fl_C 15 [.ref this] h = if (h.1.2.2.2 && decide (h.1.1 < 1000000)) = true then (fl_ca fl_C 15 12 [some (.ref this)] [.ref h.1.1, .ref this] [] (fl_cl fl_C 14 [.ref h.1.1] (fl_mk h (1, 9) 4))) else none := (fl_run_eq fl_C 400 15 0 _ _ _).trans rfl
set_option maxRecDepth 100000 in
theorem fbC_15_15 (h : fl_H) (v0 : Nat) : fl_Rn fl_C 15 15 [some (.ref v0)] [] h = if (h.1.2.2.2 && decide (h.1.1 < 1000000)) = true then (fl_ca fl_C 15 23 [] [.ref h.1.1, .ref v0] [] (fl_cl fl_C 14 [.ref h.1.1] (fl_mk h (1, 9) 4))) else none := (fl_run_eq fl_C 400 15 15 _ _ _).trans rfl
set_option maxRecDepth 100000 in
theorem fbC_15_26 (h : fl_H) : fl_Rn fl_C 15 26 [] [] h = some (some none, h) := (fl_run_eq fl_C 400 15 26 _ _ _).trans rfl
set_option maxRecDepth 100000 in
theorem fbP_15_12 (h : fl_H) (v0 : Nat) (s0 : Nat) (s1 : Nat) : fl_ca fl_C 15 12 [some (.ref v0)] [.ref s0, .ref s1] [] (some (some none, h)) = if (decide (fl_k h s1 = (1, 0)) && decide (s0 < (h).1.1)) = true then (fl_Rn fl_C 15 15 [some (.ref v0)] [] (fl_sr h s1 0 s0)) else none := (fl_run_eq fl_C 400 15 12 _ _ _).trans rfl
set_option maxRecDepth 100000 in
theorem fbP_15_23 (h : fl_H) (s0 : Nat) (s1 : Nat) : fl_ca fl_C 15 23 [] [.ref s0, .ref s1] [] (some (some none, h)) = if (decide (fl_k h s1 = (1, 0)) && decide (s0 < (h).1.1)) = true then (fl_Rn fl_C 15 26 [] [] (fl_sr h s1 1 s0)) else none := (fl_run_eq fl_C 400 15 23 _ _ _).trans rfl
-- FaultLists$Run.<init>()V
set_option maxRecDepth 100000 in
theorem fbE_16 (h : fl_H) (this : Nat) : fl_cl fl_C 16 [.ref this] h = if (h.1.2.2.2 && decide (h.1.1 < 1000000)) = true then (fl_ca fl_C 16 12 [some (.ref this)] [.ref h.1.1, .ref this] [] (fl_cl fl_C 12 [.ref h.1.1] (fl_mk h (1, 4) 11))) else none := (fl_run_eq fl_C 400 16 0 _ _ _).trans rfl
set_option maxRecDepth 100000 in
theorem fbC_16_15 (h : fl_H) (v0 : Nat) : fl_Rn fl_C 16 15 [some (.ref v0)] [] h = if (h.1.2.2.2 && decide (h.1.1 < 1000000)) = true then (fl_ca fl_C 16 23 [some (.ref v0)] [.ref h.1.1, .ref v0] [] (fl_cl fl_C 15 [.ref h.1.1] (fl_mk h (1, 0) 2))) else none := (fl_run_eq fl_C 400 16 15 _ _ _).trans rfl
set_option maxRecDepth 100000 in
theorem fbC_16_26 (h : fl_H) (v0 : Nat) : fl_Rn fl_C 16 26 [some (.ref v0)] [] h = if (h.1.2.2.2 && decide (h.1.1 < 1000000)) = true then (fl_ca fl_C 16 36 [some (.ref v0)] [.ref h.1.1, .ref v0] [] (fl_cl fl_C 10 [.ref h.1.1, .int 24] (fl_mk h (1, 1) 1))) else none := (fl_run_eq fl_C 400 16 26 _ _ _).trans rfl
set_option maxRecDepth 100000 in
theorem fbC_16_39 (h : fl_H) (v0 : Nat) : fl_Rn fl_C 16 39 [some (.ref v0)] [] h = if (h.1.2.2.2 && decide (h.1.1 < 1000000)) = true then (fl_ca fl_C 16 49 [some (.ref v0)] [.ref h.1.1, .ref v0] [] (fl_cl fl_C 10 [.ref h.1.1, .int 64] (fl_mk h (1, 1) 1))) else none := (fl_run_eq fl_C 400 16 39 _ _ _).trans rfl
set_option maxRecDepth 100000 in
theorem fbC_16_52 (h : fl_H) (v0 : Nat) : fl_Rn fl_C 16 52 [some (.ref v0)] [] h = if (h.1.2.2.2 && decide (h.1.1 < 1000000)) = true then (fl_ca fl_C 16 62 [] [.ref h.1.1, .ref v0] [] (fl_cl fl_C 10 [.ref h.1.1, .int 64] (fl_mk h (1, 1) 1))) else none := (fl_run_eq fl_C 400 16 52 _ _ _).trans rfl
set_option maxRecDepth 100000 in
theorem fbC_16_65 (h : fl_H) : fl_Rn fl_C 16 65 [] [] h = some (some none, h) := (fl_run_eq fl_C 400 16 65 _ _ _).trans rfl
set_option maxRecDepth 100000 in
theorem fbP_16_12 (h : fl_H) (v0 : Nat) (s0 : Nat) (s1 : Nat) : fl_ca fl_C 16 12 [some (.ref v0)] [.ref s0, .ref s1] [] (some (some none, h)) = if (decide (fl_k h s1 = (1, 7)) && decide (s0 < (h).1.1)) = true then (fl_Rn fl_C 16 15 [some (.ref v0)] [] (fl_sr h s1 0 s0)) else none := (fl_run_eq fl_C 400 16 12 _ _ _).trans rfl
set_option maxRecDepth 100000 in
theorem fbP_16_23 (h : fl_H) (v0 : Nat) (s0 : Nat) (s1 : Nat) : fl_ca fl_C 16 23 [some (.ref v0)] [.ref s0, .ref s1] [] (some (some none, h)) = if (decide (fl_k h s1 = (1, 7)) && decide (s0 < (h).1.1)) = true then (fl_Rn fl_C 16 26 [some (.ref v0)] [] (fl_sr h s1 1 s0)) else none := (fl_run_eq fl_C 400 16 23 _ _ _).trans rfl
set_option maxRecDepth 100000 in
theorem fbP_16_36 (h : fl_H) (v0 : Nat) (s0 : Nat) (s1 : Nat) : fl_ca fl_C 16 36 [some (.ref v0)] [.ref s0, .ref s1] [] (some (some none, h)) = if (decide (fl_k h s1 = (1, 7)) && decide (s0 < (h).1.1)) = true then (fl_Rn fl_C 16 39 [some (.ref v0)] [] (fl_sr h s1 2 s0)) else none := (fl_run_eq fl_C 400 16 36 _ _ _).trans rfl
set_option maxRecDepth 100000 in
theorem fbP_16_49 (h : fl_H) (v0 : Nat) (s0 : Nat) (s1 : Nat) : fl_ca fl_C 16 49 [some (.ref v0)] [.ref s0, .ref s1] [] (some (some none, h)) = if (decide (fl_k h s1 = (1, 7)) && decide (s0 < (h).1.1)) = true then (fl_Rn fl_C 16 52 [some (.ref v0)] [] (fl_sr h s1 8 s0)) else none := (fl_run_eq fl_C 400 16 49 _ _ _).trans rfl
set_option maxRecDepth 100000 in
theorem fbP_16_62 (h : fl_H) (s0 : Nat) (s1 : Nat) : fl_ca fl_C 16 62 [] [.ref s0, .ref s1] [] (some (some none, h)) = if (decide (fl_k h s1 = (1, 7)) && decide (s0 < (h).1.1)) = true then (fl_Rn fl_C 16 65 [] [] (fl_sr h s1 9 s0)) else none := (fl_run_eq fl_C 400 16 62 _ _ _).trans rfl
-- FaultLists$Kin.<init>()V
set_option maxRecDepth 100000 in
theorem fbE_17 (h : fl_H) (this : Nat) : fl_cl fl_C 17 [.ref this] h = if (h.1.2.2.2 && decide (h.1.1 < 1000000)) = true then (fl_ca fl_C 17 14 [] [.ref h.1.1, .ref this] [] (fl_cl fl_C 10 [.ref h.1.1, .int 64] (fl_mk h (1, 1) 1))) else none := (fl_run_eq fl_C 400 17 0 _ _ _).trans rfl
set_option maxRecDepth 100000 in
theorem fbC_17_17 (h : fl_H) : fl_Rn fl_C 17 17 [] [] h = some (some none, h) := (fl_run_eq fl_C 400 17 17 _ _ _).trans rfl
set_option maxRecDepth 100000 in
theorem fbP_17_14 (h : fl_H) (s0 : Nat) (s1 : Nat) : fl_ca fl_C 17 14 [] [.ref s0, .ref s1] [] (some (some none, h)) = if (decide (fl_k h s1 = (1, 2)) && decide (s0 < (h).1.1)) = true then (fl_Rn fl_C 17 17 [] [] (fl_sr h s1 0 s0)) else none := (fl_run_eq fl_C 400 17 14 _ _ _).trans rfl
-- FaultLists$Moves.<init>()V
set_option maxRecDepth 100000 in
theorem fbE_18 (h : fl_H) (this : Nat) : fl_cl fl_C 18 [.ref this] h = if (h.1.2.2.2 && decide (h.1.1 < 1000000)) = true then (fl_ca fl_C 18 12 [some (.ref this)] [.ref h.1.1, .ref this] [] (fl_cl fl_C 14 [.ref h.1.1] (fl_mk h (1, 9) 4))) else none := (fl_run_eq fl_C 400 18 0 _ _ _).trans rfl
set_option maxRecDepth 100000 in
theorem fbC_18_15 (h : fl_H) (v0 : Nat) : fl_Rn fl_C 18 15 [some (.ref v0)] [] h = if (h.1.2.2.2 && decide (h.1.1 < 1000000)) = true then (fl_ca fl_C 18 26 [some (.ref v0)] [.ref h.1.1, .ref v0] [] (fl_cl fl_C 10 [.ref h.1.1, .int 432] (fl_mk h (1, 1) 1))) else none := (fl_run_eq fl_C 400 18 15 _ _ _).trans rfl
set_option maxRecDepth 100000 in
theorem fbC_18_29 (h : fl_H) (v0 : Nat) : fl_Rn fl_C 18 29 [some (.ref v0)] [] h = if (h.1.2.2.2 && decide (h.1.1 < 1000000)) = true then (fl_ca fl_C 18 40 [some (.ref v0)] [.ref h.1.1, .ref v0] [] (fl_cl fl_C 10 [.ref h.1.1, .int 3024] (fl_mk h (1, 1) 1))) else none := (fl_run_eq fl_C 400 18 29 _ _ _).trans rfl
set_option maxRecDepth 100000 in
theorem fbC_18_43 (h : fl_H) (v0 : Nat) : fl_Rn fl_C 18 43 [some (.ref v0)] [] h = if (h.1.2.2.2 && decide (h.1.1 < 1000000)) = true then (fl_ca fl_C 18 54 [] [.ref h.1.1, .ref v0] [] (fl_cl fl_C 10 [.ref h.1.1, .int 3024] (fl_mk h (1, 1) 1))) else none := (fl_run_eq fl_C 400 18 43 _ _ _).trans rfl
set_option maxRecDepth 100000 in
theorem fbC_18_57 (h : fl_H) : fl_Rn fl_C 18 57 [] [] h = some (some none, h) := (fl_run_eq fl_C 400 18 57 _ _ _).trans rfl
set_option maxRecDepth 100000 in
theorem fbP_18_12 (h : fl_H) (v0 : Nat) (s0 : Nat) (s1 : Nat) : fl_ca fl_C 18 12 [some (.ref v0)] [.ref s0, .ref s1] [] (some (some none, h)) = if (decide (fl_k h s1 = (1, 3)) && decide (s0 < (h).1.1)) = true then (fl_Rn fl_C 18 15 [some (.ref v0)] [] (fl_sr h s1 0 s0)) else none := (fl_run_eq fl_C 400 18 12 _ _ _).trans rfl
set_option maxRecDepth 100000 in
theorem fbP_18_26 (h : fl_H) (v0 : Nat) (s0 : Nat) (s1 : Nat) : fl_ca fl_C 18 26 [some (.ref v0)] [.ref s0, .ref s1] [] (some (some none, h)) = if (decide (fl_k h s1 = (1, 3)) && decide (s0 < (h).1.1)) = true then (fl_Rn fl_C 18 29 [some (.ref v0)] [] (fl_sr h s1 1 s0)) else none := (fl_run_eq fl_C 400 18 26 _ _ _).trans rfl
set_option maxRecDepth 100000 in
theorem fbP_18_40 (h : fl_H) (v0 : Nat) (s0 : Nat) (s1 : Nat) : fl_ca fl_C 18 40 [some (.ref v0)] [.ref s0, .ref s1] [] (some (some none, h)) = if (decide (fl_k h s1 = (1, 3)) && decide (s0 < (h).1.1)) = true then (fl_Rn fl_C 18 43 [some (.ref v0)] [] (fl_sr h s1 2 s0)) else none := (fl_run_eq fl_C 400 18 40 _ _ _).trans rfl
set_option maxRecDepth 100000 in
theorem fbP_18_54 (h : fl_H) (s0 : Nat) (s1 : Nat) : fl_ca fl_C 18 54 [] [.ref s0, .ref s1] [] (some (some none, h)) = if (decide (fl_k h s1 = (1, 3)) && decide (s0 < (h).1.1)) = true then (fl_Rn fl_C 18 57 [] [] (fl_sr h s1 3 s0)) else none := (fl_run_eq fl_C 400 18 54 _ _ _).trans rfl
-- FaultLists$Search.<init>()V
set_option maxRecDepth 100000 in
theorem fbE_19 (h : fl_H) (this : Nat) : fl_cl fl_C 19 [.ref this] h = if (h.1.2.2.2 && decide (h.1.1 < 1000000)) = true then (fl_ca fl_C 19 14 [some (.ref this)] [.ref h.1.1, .ref this] [] (fl_cl fl_C 10 [.ref h.1.1, .int 6] (fl_mk h (1, 1) 1))) else none := (fl_run_eq fl_C 400 19 0 _ _ _).trans rfl
set_option maxRecDepth 100000 in
theorem fbC_19_17 (h : fl_H) (v0 : Nat) : fl_Rn fl_C 19 17 [some (.ref v0)] [] h = if (h.1.2.2.2 && decide (h.1.1 < 1000000)) = true then (fl_ca fl_C 19 25 [some (.ref v0)] [.ref h.1.1, .ref v0] [] (fl_cl fl_C 18 [.ref h.1.1] (fl_mk h (1, 3) 4))) else none := (fl_run_eq fl_C 400 19 17 _ _ _).trans rfl
set_option maxRecDepth 100000 in
theorem fbC_19_28 (h : fl_H) (v0 : Nat) : fl_Rn fl_C 19 28 [some (.ref v0)] [] h = if (h.1.2.2.2 && decide (h.1.1 < 1000000)) = true then (fl_ca fl_C 19 36 [some (.ref v0)] [.ref h.1.1, .ref v0] [] (fl_cl fl_C 18 [.ref h.1.1] (fl_mk h (1, 3) 4))) else none := (fl_run_eq fl_C 400 19 28 _ _ _).trans rfl
set_option maxRecDepth 100000 in
theorem fbC_19_39 (h : fl_H) (v0 : Nat) : fl_Rn fl_C 19 39 [some (.ref v0)] [] h = if (h.1.2.2.2 && decide (h.1.1 < 1000000)) = true then (fl_ca fl_C 19 50 [some (.ref v0)] [.ref h.1.1, .ref v0] [] (fl_cl fl_C 10 [.ref h.1.1, .int 729] (fl_mk h (1, 1) 1))) else none := (fl_run_eq fl_C 400 19 39 _ _ _).trans rfl
set_option maxRecDepth 100000 in
theorem fbC_19_53 (h : fl_H) (v0 : Nat) : fl_Rn fl_C 19 53 [some (.ref v0)] [] h = if (h.1.2.2.2 && decide (h.1.1 < 1000000)) = true then (fl_ca fl_C 19 64 [some (.ref v0)] [.ref h.1.1, .ref v0] [] (fl_cl fl_C 10 [.ref h.1.1, .int 729] (fl_mk h (1, 1) 1))) else none := (fl_run_eq fl_C 400 19 53 _ _ _).trans rfl
set_option maxRecDepth 100000 in
theorem fbC_19_67 (h : fl_H) (v0 : Nat) : fl_Rn fl_C 19 67 [some (.ref v0)] [] h = if (h.1.2.2.2 && decide (h.1.1 < 1000000)) = true then (fl_ca fl_C 19 78 [some (.ref v0)] [.ref h.1.1, .ref v0] [] (fl_cl fl_C 10 [.ref h.1.1, .int 729] (fl_mk h (1, 1) 1))) else none := (fl_run_eq fl_C 400 19 67 _ _ _).trans rfl
set_option maxRecDepth 100000 in
theorem fbC_19_81 (h : fl_H) (v0 : Nat) : fl_Rn fl_C 19 81 [some (.ref v0)] [] h = if (h.1.2.2.2 && decide (h.1.1 < 1000000)) = true then (fl_ca fl_C 19 92 [some (.ref v0)] [.ref h.1.1, .ref v0] [] (fl_cl fl_C 10 [.ref h.1.1, .int 729] (fl_mk h (1, 1) 1))) else none := (fl_run_eq fl_C 400 19 81 _ _ _).trans rfl
set_option maxRecDepth 100000 in
theorem fbC_19_95 (h : fl_H) (v0 : Nat) : fl_Rn fl_C 19 95 [some (.ref v0)] [] h = if (h.1.2.2.2 && decide (h.1.1 < 1000000)) = true then (fl_ca fl_C 19 106 [] [.ref h.1.1, .ref v0] [] (fl_cl fl_C 10 [.ref h.1.1, .int 729] (fl_mk h (1, 1) 1))) else none := (fl_run_eq fl_C 400 19 95 _ _ _).trans rfl
set_option maxRecDepth 100000 in
theorem fbC_19_109 (h : fl_H) : fl_Rn fl_C 19 109 [] [] h = some (some none, h) := (fl_run_eq fl_C 400 19 109 _ _ _).trans rfl
set_option maxRecDepth 100000 in
theorem fbP_19_14 (h : fl_H) (v0 : Nat) (s0 : Nat) (s1 : Nat) : fl_ca fl_C 19 14 [some (.ref v0)] [.ref s0, .ref s1] [] (some (some none, h)) = if (decide (fl_k h s1 = (1, 8)) && decide (s0 < (h).1.1)) = true then (fl_Rn fl_C 19 17 [some (.ref v0)] [] (fl_sr h s1 0 s0)) else none := (fl_run_eq fl_C 400 19 14 _ _ _).trans rfl
set_option maxRecDepth 100000 in
theorem fbP_19_25 (h : fl_H) (v0 : Nat) (s0 : Nat) (s1 : Nat) : fl_ca fl_C 19 25 [some (.ref v0)] [.ref s0, .ref s1] [] (some (some none, h)) = if (decide (fl_k h s1 = (1, 8)) && decide (s0 < (h).1.1)) = true then (fl_Rn fl_C 19 28 [some (.ref v0)] [] (fl_sr h s1 1 s0)) else none := (fl_run_eq fl_C 400 19 25 _ _ _).trans rfl
set_option maxRecDepth 100000 in
theorem fbP_19_36 (h : fl_H) (v0 : Nat) (s0 : Nat) (s1 : Nat) : fl_ca fl_C 19 36 [some (.ref v0)] [.ref s0, .ref s1] [] (some (some none, h)) = if (decide (fl_k h s1 = (1, 8)) && decide (s0 < (h).1.1)) = true then (fl_Rn fl_C 19 39 [some (.ref v0)] [] (fl_sr h s1 2 s0)) else none := (fl_run_eq fl_C 400 19 36 _ _ _).trans rfl
set_option maxRecDepth 100000 in
theorem fbP_19_50 (h : fl_H) (v0 : Nat) (s0 : Nat) (s1 : Nat) : fl_ca fl_C 19 50 [some (.ref v0)] [.ref s0, .ref s1] [] (some (some none, h)) = if (decide (fl_k h s1 = (1, 8)) && decide (s0 < (h).1.1)) = true then (fl_Rn fl_C 19 53 [some (.ref v0)] [] (fl_sr h s1 3 s0)) else none := (fl_run_eq fl_C 400 19 50 _ _ _).trans rfl
set_option maxRecDepth 100000 in
theorem fbP_19_64 (h : fl_H) (v0 : Nat) (s0 : Nat) (s1 : Nat) : fl_ca fl_C 19 64 [some (.ref v0)] [.ref s0, .ref s1] [] (some (some none, h)) = if (decide (fl_k h s1 = (1, 8)) && decide (s0 < (h).1.1)) = true then (fl_Rn fl_C 19 67 [some (.ref v0)] [] (fl_sr h s1 4 s0)) else none := (fl_run_eq fl_C 400 19 64 _ _ _).trans rfl
set_option maxRecDepth 100000 in
theorem fbP_19_78 (h : fl_H) (v0 : Nat) (s0 : Nat) (s1 : Nat) : fl_ca fl_C 19 78 [some (.ref v0)] [.ref s0, .ref s1] [] (some (some none, h)) = if (decide (fl_k h s1 = (1, 8)) && decide (s0 < (h).1.1)) = true then (fl_Rn fl_C 19 81 [some (.ref v0)] [] (fl_sr h s1 5 s0)) else none := (fl_run_eq fl_C 400 19 78 _ _ _).trans rfl
set_option maxRecDepth 100000 in
theorem fbP_19_92 (h : fl_H) (v0 : Nat) (s0 : Nat) (s1 : Nat) : fl_ca fl_C 19 92 [some (.ref v0)] [.ref s0, .ref s1] [] (some (some none, h)) = if (decide (fl_k h s1 = (1, 8)) && decide (s0 < (h).1.1)) = true then (fl_Rn fl_C 19 95 [some (.ref v0)] [] (fl_sr h s1 6 s0)) else none := (fl_run_eq fl_C 400 19 92 _ _ _).trans rfl
set_option maxRecDepth 100000 in
theorem fbP_19_106 (h : fl_H) (s0 : Nat) (s1 : Nat) : fl_ca fl_C 19 106 [] [.ref s0, .ref s1] [] (some (some none, h)) = if (decide (fl_k h s1 = (1, 8)) && decide (s0 < (h).1.1)) = true then (fl_Rn fl_C 19 109 [] [] (fl_sr h s1 7 s0)) else none := (fl_run_eq fl_C 400 19 106 _ _ _).trans rfl
-- FaultLists$Cells.put(IJ)V
set_option maxRecDepth 100000 in
theorem fbE_20 (h : fl_H) (this : Nat) (p0 : Int32) (p1 : Int64) : fl_cl fl_C 20 [.ref this, .int p0, .long p1] h = if (decide (p0 < 0)) = true then (fl_Rn fl_C 20 20 [] [] h) else (if (decide (fl_k h this = (1, 1)) && (fl_r h this 0).isSome) = true then (if (decide ((fl_k h ((fl_r h this 0).getD 0)).1 = 3)) = true then (if (decide ((Int32.ofNat (fl_k h ((fl_r h this 0).getD 0)).2) ≤ p0)) = true then (fl_Rn fl_C 20 20 [] [] h) else (if (decide (fl_k h this = (1, 1)) && (fl_r h this 0).isSome) = true then (if (decide ((fl_k h ((fl_r h this 0).getD 0)).1 = 3) && fl_in p0 (fl_k h ((fl_r h this 0).getD 0)).2) = true then (fl_Rn fl_C 20 20 [] [] (fl_sl h ((fl_r h this 0).getD 0) (Int32.toNatClampNeg p0) p1)) else none) else none)) else none) else none) := (fl_run_eq fl_C 400 20 0 _ _ _).trans rfl
set_option maxRecDepth 100000 in
theorem fbC_20_20 (h : fl_H) : fl_Rn fl_C 20 20 [] [] h = some (some none, h) := (fl_run_eq fl_C 400 20 20 _ _ _).trans rfl
-- FaultLists$Net.addLine(III)V
set_option maxRecDepth 100000 in
theorem fbE_21 (h : fl_H) (this : Nat) (p0 : Int32) (p1 : Int32) (p2 : Int32) : fl_cl fl_C 21 [.ref this, .int p0, .int p1, .int p2] h = if (decide (fl_k h this = (1, 4)) && (fl_r h this 5).isSome) = true then (if (decide (fl_k h this = (1, 4))) = true then (if (decide (fl_k h ((fl_r h this 5).getD 0) = (1, 1)) && true) = true then (fl_ca fl_C 21 13 [some (.ref this), some (.int p0), some (.int p1), some (.int p2)] [] [] (fl_cl fl_C 20 [.ref ((fl_r h this 5).getD 0), .int (fl_i h this 1), .long (Int32.toInt64 p0)] h)) else none) else none) else none := (fl_run_eq fl_C 400 21 0 _ _ _).trans rfl
set_option maxRecDepth 100000 in
theorem fbC_21_76 (h : fl_H) (v0 : Nat) (v1 : Int32) : fl_Rn fl_C 21 76 [some (.ref v0), some (.int v1)] [] h = if (decide (fl_k h v0 = (1, 4))) = true then (if (decide (¬ v1 = 8)) = true then (if (decide (fl_k h v0 = (1, 4))) = true then (some (some none, fl_si h v0 3 ((fl_i h v0 3) + 0))) else none) else (if (decide (fl_k h v0 = (1, 4))) = true then (some (some none, fl_si h v0 3 ((fl_i h v0 3) + 1))) else none)) else none := (fl_run_eq fl_C 400 21 76 _ _ _).trans rfl
set_option maxRecDepth 100000 in
theorem fbP_21_13 (h : fl_H) (v0 : Nat) (v1 : Int32) (v2 : Int32) (v3 : Int32) : fl_ca fl_C 21 13 [some (.ref v0), some (.int v1), some (.int v2), some (.int v3)] [] [] (some (some none, h)) = if (decide (fl_k h v0 = (1, 4)) && (fl_r h v0 7).isSome) = true then (if (decide (fl_k h v0 = (1, 4))) = true then (if (decide (fl_k h ((fl_r h v0 7).getD 0) = (1, 1)) && true) = true then (fl_ca fl_C 21 26 [some (.ref v0), some (.int v1), some (.int v2), some (.int v3)] [] [] (fl_cl fl_C 20 [.ref ((fl_r h v0 7).getD 0), .int (fl_i h v0 1), .long (Int32.toInt64 v2)] h)) else none) else none) else none := (fl_run_eq fl_C 400 21 13 _ _ _).trans rfl
set_option maxRecDepth 100000 in
theorem fbP_21_26 (h : fl_H) (v0 : Nat) (v1 : Int32) (v2 : Int32) (v3 : Int32) : fl_ca fl_C 21 26 [some (.ref v0), some (.int v1), some (.int v2), some (.int v3)] [] [] (some (some none, h)) = if (decide (fl_k h v0 = (1, 4)) && (fl_r h v0 6).isSome) = true then (if (decide (fl_k h v0 = (1, 4))) = true then (if (decide (¬ v2 = (-1))) = true then (if (decide (fl_k h v0 = (1, 4))) = true then (if (decide (fl_k h ((fl_r h v0 6).getD 0) = (1, 1)) && true) = true then (fl_ca fl_C 21 53 [some (.ref v0), some (.int v1), none, some (.int v3)] [] [] (fl_cl fl_C 20 [.ref ((fl_r h v0 6).getD 0), .int (fl_i h v0 1), .long (Int32.toInt64 ((fl_i h v0 2) - v2))] h)) else none) else none) else (if (decide (fl_k h ((fl_r h v0 6).getD 0) = (1, 1)) && true) = true then (fl_ca fl_C 21 53 [some (.ref v0), some (.int v1), none, some (.int v3)] [] [] (fl_cl fl_C 20 [.ref ((fl_r h v0 6).getD 0), .int (fl_i h v0 1), .long 0] h)) else none)) else none) else none := (fl_run_eq fl_C 400 21 26 _ _ _).trans rfl
set_option maxRecDepth 100000 in
theorem fbP_21_53 (h : fl_H) (v0 : Nat) (v1 : Int32) (v3 : Int32) : fl_ca fl_C 21 53 [some (.ref v0), some (.int v1), none, some (.int v3)] [] [] (some (some none, h)) = if (decide (fl_k h v0 = (1, 4)) && (fl_r h v0 8).isSome) = true then (if (decide (fl_k h v0 = (1, 4))) = true then (if (decide (fl_k h ((fl_r h v0 8).getD 0) = (1, 1)) && true) = true then (fl_ca fl_C 21 66 [some (.ref v0), some (.int v1)] [] [] (fl_cl fl_C 20 [.ref ((fl_r h v0 8).getD 0), .int (fl_i h v0 1), .long (Int32.toInt64 v3)] h)) else none) else none) else none := (fl_run_eq fl_C 400 21 53 _ _ _).trans rfl
set_option maxRecDepth 100000 in
theorem fbP_21_66 (h : fl_H) (v0 : Nat) (v1 : Int32) : fl_ca fl_C 21 66 [some (.ref v0), some (.int v1)] [] [] (some (some none, h)) = if (decide (fl_k h v0 = (1, 4))) = true then (if (decide (fl_k h v0 = (1, 4))) = true then (fl_Rn fl_C 21 76 [some (.ref v0), some (.int v1)] [] (fl_si h v0 1 ((fl_i h v0 1) + 1))) else none) else none := (fl_run_eq fl_C 400 21 66 _ _ _).trans rfl
-- FaultLists$Net.addInputs(I)V
set_option maxRecDepth 100000 in
theorem fbE_22 (h : fl_H) (this : Nat) (p0 : Int32) : fl_cl fl_C 22 [.ref this, .int p0] h = fl_Rn fl_C 22 2 [some (.ref this), some (.int p0), some (.int 0)] [] h := (fl_run_eq fl_C 400 22 0 _ _ _).trans rfl
set_option maxRecDepth 100000 in
theorem fbC_22_2 (h : fl_H) (v0 : Nat) (v1 : Int32) (v2 : Int32) : fl_Rn fl_C 22 2 [some (.ref v0), some (.int v1), some (.int v2)] [] h = if (decide (v1 ≤ v2)) = true then (fl_Rn fl_C 22 39 [] [] h) else (if (decide (fl_k h v0 = (1, 4))) = true then (if (decide (12 ≤ (fl_i h v0 1))) = true then (fl_Rn fl_C 22 39 [] [] h) else (if (decide (fl_k h v0 = (1, 4)) && true) = true then (fl_ca fl_C 22 23 [some (.ref v0), some (.int v1), some (.int v2)] [] [] (fl_cl fl_C 21 [.ref v0, .int 0, .int (-1), .int (-1)] h)) else none)) else none) := (fl_run_eq fl_C 400 22 2 _ _ _).trans rfl
set_option maxRecDepth 100000 in
theorem fbC_22_33 (h : fl_H) (v0 : Nat) (v1 : Int32) (v2 : Int32) : fl_Rn fl_C 22 33 [some (.ref v0), some (.int v1), some (.int v2)] [] h = fl_Rn fl_C 22 2 [some (.ref v0), some (.int v1), some (.int (v2 + 1))] [] h := (fl_run_eq fl_C 400 22 33 _ _ _).trans rfl
set_option maxRecDepth 100000 in
theorem fbC_22_39 (h : fl_H) : fl_Rn fl_C 22 39 [] [] h = some (some none, h) := (fl_run_eq fl_C 400 22 39 _ _ _).trans rfl
set_option maxRecDepth 100000 in
theorem fbP_22_23 (h : fl_H) (v0 : Nat) (v1 : Int32) (v2 : Int32) : fl_ca fl_C 22 23 [some (.ref v0), some (.int v1), some (.int v2)] [] [] (some (some none, h)) = if (decide (fl_k h v0 = (1, 4))) = true then (if (decide (fl_k h v0 = (1, 4))) = true then (fl_Rn fl_C 22 33 [some (.ref v0), some (.int v1), some (.int v2)] [] (fl_si h v0 0 ((fl_i h v0 0) + 1))) else none) else none := (fl_run_eq fl_C 400 22 23 _ _ _).trans rfl
-- FaultLists$Net.addOutput(I)V
set_option maxRecDepth 100000 in
theorem fbE_23 (h : fl_H) (this : Nat) (p0 : Int32) : fl_cl fl_C 23 [.ref this, .int p0] h = if (decide (fl_k h this = (1, 4)) && (fl_r h this 10).isSome) = true then (if (decide (fl_k h this = (1, 4))) = true then (if (decide (fl_k h ((fl_r h this 10).getD 0) = (1, 1)) && true) = true then (fl_ca fl_C 23 13 [some (.ref this)] [] [] (fl_cl fl_C 20 [.ref ((fl_r h this 10).getD 0), .int (fl_i h this 4), .long (Int32.toInt64 p0)] h)) else none) else none) else none := (fl_run_eq fl_C 400 23 0 _ _ _).trans rfl
set_option maxRecDepth 100000 in
theorem fbP_23_13 (h : fl_H) (v0 : Nat) : fl_ca fl_C 23 13 [some (.ref v0)] [] [] (some (some none, h)) = if (decide (fl_k h v0 = (1, 4))) = true then (if (decide (fl_k h v0 = (1, 4))) = true then (some (some none, fl_si h v0 4 ((fl_i h v0 4) + 1))) else none) else none := (fl_run_eq fl_C 400 23 13 _ _ _).trans rfl
-- FaultLists$Cells.intAt(I)I
set_option maxRecDepth 100000 in
theorem fbE_24 (h : fl_H) (this : Nat) (p0 : Int32) : fl_cl fl_C 24 [.ref this, .int p0] h = if (decide (p0 < 0)) = true then (fl_Rn fl_C 24 23 [] [] h) else (if (decide (fl_k h this = (1, 1)) && (fl_r h this 0).isSome) = true then (if (decide ((fl_k h ((fl_r h this 0).getD 0)).1 = 3)) = true then (if (decide ((Int32.ofNat (fl_k h ((fl_r h this 0).getD 0)).2) ≤ p0)) = true then (fl_Rn fl_C 24 23 [] [] h) else (if (decide (fl_k h this = (1, 1)) && (fl_r h this 0).isSome) = true then (if (decide ((fl_k h ((fl_r h this 0).getD 0)).1 = 3) && fl_in p0 (fl_k h ((fl_r h this 0).getD 0)).2) = true then (some (some (some (.int (Int64.toInt32 (fl_l h ((fl_r h this 0).getD 0) (Int32.toNatClampNeg p0))))), h)) else none) else none)) else none) else none) := (fl_run_eq fl_C 400 24 0 _ _ _).trans rfl
set_option maxRecDepth 100000 in
theorem fbC_24_23 (h : fl_H) : fl_Rn fl_C 24 23 [] [] h = some (some (some (.int 0)), h) := (fl_run_eq fl_C 400 24 23 _ _ _).trans rfl
-- FaultLists$Side.hold(II)V
set_option maxRecDepth 100000 in
theorem fbE_25 (h : fl_H) (this : Nat) (p0 : Int32) (p1 : Int32) : fl_cl fl_C 25 [.ref this, .int p0, .int p1] h = if (decide (fl_k h this = (1, 9)) && (fl_r h this 2).isSome) = true then (if (decide (¬ p1 = 1)) = true then (if (decide (fl_k h ((fl_r h this 2).getD 0) = (1, 1)) && true) = true then (fl_ca fl_C 25 20 [some (.ref this), some (.int p0), some (.int p1)] [] [] (fl_cl fl_C 20 [.ref ((fl_r h this 2).getD 0), .int p0, .long 0] h)) else none) else (if (decide (fl_k h ((fl_r h this 2).getD 0) = (1, 1)) && true) = true then (fl_ca fl_C 25 20 [some (.ref this), some (.int p0), some (.int p1)] [] [] (fl_cl fl_C 20 [.ref ((fl_r h this 2).getD 0), .int p0, .long (-1)] h)) else none)) else none := (fl_run_eq fl_C 400 25 0 _ _ _).trans rfl
set_option maxRecDepth 100000 in
theorem fbP_25_20 (h : fl_H) (v0 : Nat) (v1 : Int32) (v2 : Int32) : fl_ca fl_C 25 20 [some (.ref v0), some (.int v1), some (.int v2)] [] [] (some (some none, h)) = if (decide (fl_k h v0 = (1, 9)) && (fl_r h v0 3).isSome) = true then (if (decide (¬ v2 = 0)) = true then (if (decide (fl_k h ((fl_r h v0 3).getD 0) = (1, 1)) && true) = true then (fl_ca fl_C 25 39 [] [] [] (fl_cl fl_C 20 [.ref ((fl_r h v0 3).getD 0), .int v1, .long 0] h)) else none) else (if (decide (fl_k h ((fl_r h v0 3).getD 0) = (1, 1)) && true) = true then (fl_ca fl_C 25 39 [] [] [] (fl_cl fl_C 20 [.ref ((fl_r h v0 3).getD 0), .int v1, .long (-1)] h)) else none)) else none := (fl_run_eq fl_C 400 25 20 _ _ _).trans rfl
set_option maxRecDepth 100000 in
theorem fbP_25_39 (h : fl_H) : fl_ca fl_C 25 39 [] [] [] (some (some none, h)) = some (some none, h) := (fl_run_eq fl_C 400 25 39 _ _ _).trans rfl
-- FaultLists$Side.start(LFaultLists$Net;)V
set_option maxRecDepth 100000 in
theorem fbE_26 (h : fl_H) (this : Nat) (p0 : Nat) : fl_cl fl_C 26 [.ref this, .ref p0] h = if (decide (fl_k h p0 = (1, 4))) = true then (fl_Rn fl_C 26 5 [some (.ref this), some (.ref p0), some (.int (fl_i h p0 0))] [] h) else none := (fl_run_eq fl_C 400 26 0 _ _ _).trans rfl
set_option maxRecDepth 100000 in
theorem fbC_26_5 (h : fl_H) (v0 : Nat) (v1 : Nat) (v2 : Int32) : fl_Rn fl_C 26 5 [some (.ref v0), some (.ref v1), some (.int v2)] [] h = if (decide (fl_k h v1 = (1, 4))) = true then (if (decide ((fl_i h v1 1) ≤ v2)) = true then (some (some none, h)) else (if (decide (fl_k h v1 = (1, 4)) && (fl_r h v1 8).isSome) = true then (if (decide (fl_k h ((fl_r h v1 8).getD 0) = (1, 1)) && true) = true then (fl_ca fl_C 26 23 [some (.ref v0), some (.ref v1), some (.int v2)] [.int v2, .ref v0] [] (fl_cl fl_C 24 [.ref ((fl_r h v1 8).getD 0), .int v2] h)) else none) else none)) else none := (fl_run_eq fl_C 400 26 5 _ _ _).trans rfl
set_option maxRecDepth 100000 in
theorem fbP_26_23 (h : fl_H) (v0 : Nat) (v1 : Nat) (v2 : Int32) (s0 : Int32) (s1 : Nat) (x : Int32) : fl_ca fl_C 26 23 [some (.ref v0), some (.ref v1), some (.int v2)] [.int s0, .ref s1] [] (some (some (some (.int x)), h)) = if (decide (fl_k h s1 = (1, 9)) && true) = true then (fl_ca fl_C 26 26 [some (.ref v0), some (.ref v1), some (.int v2)] [] [] (fl_cl fl_C 25 [.ref s1, .int s0, .int x] h)) else none := (fl_run_eq fl_C 400 26 23 _ _ _).trans rfl
set_option maxRecDepth 100000 in
theorem fbP_26_26 (h : fl_H) (v0 : Nat) (v1 : Nat) (v2 : Int32) : fl_ca fl_C 26 26 [some (.ref v0), some (.ref v1), some (.int v2)] [] [] (some (some none, h)) = fl_Rn fl_C 26 5 [some (.ref v0), some (.ref v1), some (.int (v2 + 1))] [] h := (fl_run_eq fl_C 400 26 26 _ _ _).trans rfl
-- FaultLists$Bench.start(LFaultLists$Net;)V
set_option maxRecDepth 100000 in
theorem fbE_27 (h : fl_H) (this : Nat) (p0 : Nat) : fl_cl fl_C 27 [.ref this, .ref p0] h = if (decide (fl_k h this = (1, 0)) && (fl_r h this 0).isSome) = true then (if (decide (fl_k h ((fl_r h this 0).getD 0) = (1, 9)) && true) = true then (fl_ca fl_C 27 8 [some (.ref this), some (.ref p0)] [] [] (fl_cl fl_C 26 [.ref ((fl_r h this 0).getD 0), .ref p0] h)) else none) else none := (fl_run_eq fl_C 400 27 0 _ _ _).trans rfl
set_option maxRecDepth 100000 in
theorem fbP_27_8 (h : fl_H) (v0 : Nat) (v1 : Nat) : fl_ca fl_C 27 8 [some (.ref v0), some (.ref v1)] [] [] (some (some none, h)) = if (decide (fl_k h v0 = (1, 0)) && (fl_r h v0 1).isSome) = true then (if (decide (fl_k h ((fl_r h v0 1).getD 0) = (1, 9)) && true) = true then (fl_ca fl_C 27 16 [] [] [] (fl_cl fl_C 26 [.ref ((fl_r h v0 1).getD 0), .ref v1] h)) else none) else none := (fl_run_eq fl_C 400 27 8 _ _ _).trans rfl
set_option maxRecDepth 100000 in
theorem fbP_27_16 (h : fl_H) : fl_ca fl_C 27 16 [] [] [] (some (some none, h)) = some (some none, h) := (fl_run_eq fl_C 400 27 16 _ _ _).trans rfl
-- FaultLists$Run.restart()V
set_option maxRecDepth 100000 in
theorem fbE_28 (h : fl_H) (this : Nat) : fl_cl fl_C 28 [.ref this] h = if (decide (fl_k h this = (1, 7))) = true then (fl_Rn fl_C 28 5 [some (.ref this)] [] (fl_si h this 3 0)) else none := (fl_run_eq fl_C 400 28 0 _ _ _).trans rfl
set_option maxRecDepth 100000 in
theorem fbC_28_5 (h : fl_H) (v0 : Nat) : fl_Rn fl_C 28 5 [some (.ref v0)] [] h = if (decide (fl_k h v0 = (1, 7))) = true then (fl_Rn fl_C 28 10 [some (.ref v0)] [] (fl_sl h v0 5 0)) else none := (fl_run_eq fl_C 400 28 5 _ _ _).trans rfl
set_option maxRecDepth 100000 in
theorem fbC_28_10 (h : fl_H) (v0 : Nat) : fl_Rn fl_C 28 10 [some (.ref v0)] [] h = if (decide (fl_k h v0 = (1, 7))) = true then (fl_Rn fl_C 28 15 [some (.ref v0)] [] (fl_sl h v0 6 0)) else none := (fl_run_eq fl_C 400 28 10 _ _ _).trans rfl
set_option maxRecDepth 100000 in
theorem fbC_28_15 (h : fl_H) (v0 : Nat) : fl_Rn fl_C 28 15 [some (.ref v0)] [] h = if (decide (fl_k h v0 = (1, 7))) = true then (fl_Rn fl_C 28 20 [some (.ref v0)] [] (fl_sl h v0 7 0)) else none := (fl_run_eq fl_C 400 28 15 _ _ _).trans rfl
set_option maxRecDepth 100000 in
theorem fbC_28_20 (h : fl_H) (v0 : Nat) : fl_Rn fl_C 28 20 [some (.ref v0)] [] h = if (decide (fl_k h v0 = (1, 7)) && (fl_r h v0 1).isSome) = true then (if (decide (fl_k h v0 = (1, 7)) && (fl_r h v0 0).isSome) = true then (if (decide (fl_k h ((fl_r h v0 1).getD 0) = (1, 0)) && true) = true then (fl_ca fl_C 28 31 [] [] [] (fl_cl fl_C 27 [.ref ((fl_r h v0 1).getD 0), .ref ((fl_r h v0 0).getD 0)] h)) else none) else none) else none := (fl_run_eq fl_C 400 28 20 _ _ _).trans rfl
set_option maxRecDepth 100000 in
theorem fbP_28_31 (h : fl_H) : fl_ca fl_C 28 31 [] [] [] (some (some none, h)) = some (some none, h) := (fl_run_eq fl_C 400 28 31 _ _ _).trans rfl
-- FaultLists.<init>()V
set_option maxRecDepth 100000 in
theorem fbE_29 (h : fl_H) (this : Nat) : fl_cl fl_C 29 [.ref this] h = if (h.1.2.2.2 && decide (h.1.1 < 1000000)) = true then (fl_ca fl_C 29 14 [some (.ref this)] [.ref h.1.1, .ref this] [] (fl_cl fl_C 11 [.ref h.1.1, .int 80] (fl_mk h (1, 5) 3))) else none := (fl_run_eq fl_C 400 29 0 _ _ _).trans rfl
set_option maxRecDepth 100000 in
theorem fbC_29_17 (h : fl_H) (v0 : Nat) : fl_Rn fl_C 29 17 [some (.ref v0)] [] h = if (h.1.2.2.2 && decide (h.1.1 < 1000000)) = true then (fl_ca fl_C 29 27 [some (.ref v0)] [.ref h.1.1, .ref v0] [] (fl_cl fl_C 11 [.ref h.1.1, .int 6] (fl_mk h (1, 5) 3))) else none := (fl_run_eq fl_C 400 29 17 _ _ _).trans rfl
set_option maxRecDepth 100000 in
theorem fbC_29_30 (h : fl_H) (v0 : Nat) : fl_Rn fl_C 29 30 [some (.ref v0)] [] h = if (h.1.2.2.2 && decide (h.1.1 < 1000000)) = true then (fl_ca fl_C 29 38 [some (.ref v0)] [.ref h.1.1, .ref v0] [] (fl_cl fl_C 13 [.ref h.1.1] (fl_mk h (1, 6) 5))) else none := (fl_run_eq fl_C 400 29 30 _ _ _).trans rfl
set_option maxRecDepth 100000 in
theorem fbC_29_41 (h : fl_H) (v0 : Nat) : fl_Rn fl_C 29 41 [some (.ref v0)] [] h = if (h.1.2.2.2 && decide (h.1.1 < 1000000)) = true then (fl_ca fl_C 29 49 [some (.ref v0)] [.ref h.1.1, .ref v0] [] (fl_cl fl_C 16 [.ref h.1.1] (fl_mk h (1, 7) 10))) else none := (fl_run_eq fl_C 400 29 41 _ _ _).trans rfl
set_option maxRecDepth 100000 in
theorem fbC_29_52 (h : fl_H) (v0 : Nat) : fl_Rn fl_C 29 52 [some (.ref v0)] [] h = if (h.1.2.2.2 && decide (h.1.1 < 1000000)) = true then (fl_ca fl_C 29 60 [some (.ref v0)] [.ref h.1.1, .ref v0] [] (fl_cl fl_C 16 [.ref h.1.1] (fl_mk h (1, 7) 10))) else none := (fl_run_eq fl_C 400 29 52 _ _ _).trans rfl
set_option maxRecDepth 100000 in
theorem fbC_29_63 (h : fl_H) (v0 : Nat) : fl_Rn fl_C 29 63 [some (.ref v0)] [] h = if (h.1.2.2.2 && decide (h.1.1 < 1000000)) = true then (fl_ca fl_C 29 71 [some (.ref v0)] [.ref h.1.1, .ref v0] [] (fl_cl fl_C 16 [.ref h.1.1] (fl_mk h (1, 7) 10))) else none := (fl_run_eq fl_C 400 29 63 _ _ _).trans rfl
set_option maxRecDepth 100000 in
theorem fbC_29_74 (h : fl_H) (v0 : Nat) : fl_Rn fl_C 29 74 [some (.ref v0)] [] h = if (h.1.2.2.2 && decide (h.1.1 < 1000000)) = true then (fl_ca fl_C 29 82 [some (.ref v0)] [.ref h.1.1, .ref v0] [] (fl_cl fl_C 16 [.ref h.1.1] (fl_mk h (1, 7) 10))) else none := (fl_run_eq fl_C 400 29 74 _ _ _).trans rfl
set_option maxRecDepth 100000 in
theorem fbC_29_85 (h : fl_H) (v0 : Nat) : fl_Rn fl_C 29 85 [some (.ref v0)] [] h = if (h.1.2.2.2 && decide (h.1.1 < 1000000)) = true then (fl_ca fl_C 29 93 [some (.ref v0)] [.ref h.1.1, .ref v0] [] (fl_cl fl_C 15 [.ref h.1.1] (fl_mk h (1, 0) 2))) else none := (fl_run_eq fl_C 400 29 85 _ _ _).trans rfl
set_option maxRecDepth 100000 in
theorem fbC_29_96 (h : fl_H) (v0 : Nat) : fl_Rn fl_C 29 96 [some (.ref v0)] [] h = if (h.1.2.2.2 && decide (h.1.1 < 1000000)) = true then (fl_ca fl_C 29 104 [some (.ref v0)] [.ref h.1.1, .ref v0] [] (fl_cl fl_C 14 [.ref h.1.1] (fl_mk h (1, 9) 4))) else none := (fl_run_eq fl_C 400 29 96 _ _ _).trans rfl
set_option maxRecDepth 100000 in
theorem fbC_29_107 (h : fl_H) (v0 : Nat) : fl_Rn fl_C 29 107 [some (.ref v0)] [] h = if (h.1.2.2.2 && decide (h.1.1 < 1000000)) = true then (fl_ca fl_C 29 115 [some (.ref v0)] [.ref h.1.1, .ref v0] [] (fl_cl fl_C 17 [.ref h.1.1] (fl_mk h (1, 2) 1))) else none := (fl_run_eq fl_C 400 29 107 _ _ _).trans rfl
set_option maxRecDepth 100000 in
theorem fbC_29_118 (h : fl_H) (v0 : Nat) : fl_Rn fl_C 29 118 [some (.ref v0)] [] h = if (h.1.2.2.2 && decide (h.1.1 < 1000000)) = true then (fl_ca fl_C 29 126 [some (.ref v0)] [.ref h.1.1, .ref v0] [] (fl_cl fl_C 19 [.ref h.1.1] (fl_mk h (1, 8) 9))) else none := (fl_run_eq fl_C 400 29 118 _ _ _).trans rfl
set_option maxRecDepth 100000 in
theorem fbC_29_129 (h : fl_H) (v0 : Nat) : fl_Rn fl_C 29 129 [some (.ref v0)] [] h = if (decide (fl_k h v0 = (1, 10)) && (fl_r h v0 3).isSome) = true then (if (decide (fl_k h ((fl_r h v0 3).getD 0) = (1, 7)) && (fl_r h ((fl_r h v0 3).getD 0) 0).isSome) = true then (if (decide (fl_k h ((fl_r h ((fl_r h v0 3).getD 0) 0).getD 0) = (1, 4)) && true) = true then (fl_ca fl_C 29 140 [some (.ref v0)] [] [] (fl_cl fl_C 22 [.ref ((fl_r h ((fl_r h v0 3).getD 0) 0).getD 0), .int 1] h)) else none) else none) else none := (fl_run_eq fl_C 400 29 129 _ _ _).trans rfl
set_option maxRecDepth 100000 in
theorem fbC_29_140 (h : fl_H) (v0 : Nat) : fl_Rn fl_C 29 140 [some (.ref v0)] [] h = if (decide (fl_k h v0 = (1, 10)) && (fl_r h v0 3).isSome) = true then (if (decide (fl_k h ((fl_r h v0 3).getD 0) = (1, 7)) && (fl_r h ((fl_r h v0 3).getD 0) 0).isSome) = true then (if (decide (fl_k h ((fl_r h ((fl_r h v0 3).getD 0) 0).getD 0) = (1, 4)) && true) = true then (fl_ca fl_C 29 151 [some (.ref v0)] [] [] (fl_cl fl_C 23 [.ref ((fl_r h ((fl_r h v0 3).getD 0) 0).getD 0), .int 0] h)) else none) else none) else none := (fl_run_eq fl_C 400 29 140 _ _ _).trans rfl
set_option maxRecDepth 100000 in
theorem fbC_29_151 (h : fl_H) (v0 : Nat) : fl_Rn fl_C 29 151 [some (.ref v0)] [] h = if (decide (fl_k h v0 = (1, 10)) && (fl_r h v0 3).isSome) = true then (if (decide (fl_k h ((fl_r h v0 3).getD 0) = (1, 7)) && true) = true then (fl_ca fl_C 29 158 [] [] [] (fl_cl fl_C 28 [.ref ((fl_r h v0 3).getD 0)] h)) else none) else none := (fl_run_eq fl_C 400 29 151 _ _ _).trans rfl
set_option maxRecDepth 100000 in
theorem fbC_29_158 (h : fl_H) : fl_Rn fl_C 29 158 [] [] h = some (some none, h) := (fl_run_eq fl_C 400 29 158 _ _ _).trans rfl
set_option maxRecDepth 100000 in
theorem fbP_29_14 (h : fl_H) (v0 : Nat) (s0 : Nat) (s1 : Nat) : fl_ca fl_C 29 14 [some (.ref v0)] [.ref s0, .ref s1] [] (some (some none, h)) = if (decide (fl_k h s1 = (1, 10)) && decide (s0 < (h).1.1)) = true then (fl_Rn fl_C 29 17 [some (.ref v0)] [] (fl_sr h s1 0 s0)) else none := (fl_run_eq fl_C 400 29 14 _ _ _).trans rfl
set_option maxRecDepth 100000 in
theorem fbP_29_27 (h : fl_H) (v0 : Nat) (s0 : Nat) (s1 : Nat) : fl_ca fl_C 29 27 [some (.ref v0)] [.ref s0, .ref s1] [] (some (some none, h)) = if (decide (fl_k h s1 = (1, 10)) && decide (s0 < (h).1.1)) = true then (fl_Rn fl_C 29 30 [some (.ref v0)] [] (fl_sr h s1 1 s0)) else none := (fl_run_eq fl_C 400 29 27 _ _ _).trans rfl
set_option maxRecDepth 100000 in
theorem fbP_29_38 (h : fl_H) (v0 : Nat) (s0 : Nat) (s1 : Nat) : fl_ca fl_C 29 38 [some (.ref v0)] [.ref s0, .ref s1] [] (some (some none, h)) = if (decide (fl_k h s1 = (1, 10)) && decide (s0 < (h).1.1)) = true then (fl_Rn fl_C 29 41 [some (.ref v0)] [] (fl_sr h s1 2 s0)) else none := (fl_run_eq fl_C 400 29 38 _ _ _).trans rfl
set_option maxRecDepth 100000 in
theorem fbP_29_49 (h : fl_H) (v0 : Nat) (s0 : Nat) (s1 : Nat) : fl_ca fl_C 29 49 [some (.ref v0)] [.ref s0, .ref s1] [] (some (some none, h)) = if (decide (fl_k h s1 = (1, 10)) && decide (s0 < (h).1.1)) = true then (fl_Rn fl_C 29 52 [some (.ref v0)] [] (fl_sr h s1 3 s0)) else none := (fl_run_eq fl_C 400 29 49 _ _ _).trans rfl
set_option maxRecDepth 100000 in
theorem fbP_29_60 (h : fl_H) (v0 : Nat) (s0 : Nat) (s1 : Nat) : fl_ca fl_C 29 60 [some (.ref v0)] [.ref s0, .ref s1] [] (some (some none, h)) = if (decide (fl_k h s1 = (1, 10)) && decide (s0 < (h).1.1)) = true then (fl_Rn fl_C 29 63 [some (.ref v0)] [] (fl_sr h s1 4 s0)) else none := (fl_run_eq fl_C 400 29 60 _ _ _).trans rfl
set_option maxRecDepth 100000 in
theorem fbP_29_71 (h : fl_H) (v0 : Nat) (s0 : Nat) (s1 : Nat) : fl_ca fl_C 29 71 [some (.ref v0)] [.ref s0, .ref s1] [] (some (some none, h)) = if (decide (fl_k h s1 = (1, 10)) && decide (s0 < (h).1.1)) = true then (fl_Rn fl_C 29 74 [some (.ref v0)] [] (fl_sr h s1 5 s0)) else none := (fl_run_eq fl_C 400 29 71 _ _ _).trans rfl
set_option maxRecDepth 100000 in
theorem fbP_29_82 (h : fl_H) (v0 : Nat) (s0 : Nat) (s1 : Nat) : fl_ca fl_C 29 82 [some (.ref v0)] [.ref s0, .ref s1] [] (some (some none, h)) = if (decide (fl_k h s1 = (1, 10)) && decide (s0 < (h).1.1)) = true then (fl_Rn fl_C 29 85 [some (.ref v0)] [] (fl_sr h s1 8 s0)) else none := (fl_run_eq fl_C 400 29 82 _ _ _).trans rfl
set_option maxRecDepth 100000 in
theorem fbP_29_93 (h : fl_H) (v0 : Nat) (s0 : Nat) (s1 : Nat) : fl_ca fl_C 29 93 [some (.ref v0)] [.ref s0, .ref s1] [] (some (some none, h)) = if (decide (fl_k h s1 = (1, 10)) && decide (s0 < (h).1.1)) = true then (fl_Rn fl_C 29 96 [some (.ref v0)] [] (fl_sr h s1 9 s0)) else none := (fl_run_eq fl_C 400 29 93 _ _ _).trans rfl
set_option maxRecDepth 100000 in
theorem fbP_29_104 (h : fl_H) (v0 : Nat) (s0 : Nat) (s1 : Nat) : fl_ca fl_C 29 104 [some (.ref v0)] [.ref s0, .ref s1] [] (some (some none, h)) = if (decide (fl_k h s1 = (1, 10)) && decide (s0 < (h).1.1)) = true then (fl_Rn fl_C 29 107 [some (.ref v0)] [] (fl_sr h s1 10 s0)) else none := (fl_run_eq fl_C 400 29 104 _ _ _).trans rfl
set_option maxRecDepth 100000 in
theorem fbP_29_115 (h : fl_H) (v0 : Nat) (s0 : Nat) (s1 : Nat) : fl_ca fl_C 29 115 [some (.ref v0)] [.ref s0, .ref s1] [] (some (some none, h)) = if (decide (fl_k h s1 = (1, 10)) && decide (s0 < (h).1.1)) = true then (fl_Rn fl_C 29 118 [some (.ref v0)] [] (fl_sr h s1 11 s0)) else none := (fl_run_eq fl_C 400 29 115 _ _ _).trans rfl
set_option maxRecDepth 100000 in
theorem fbP_29_126 (h : fl_H) (v0 : Nat) (s0 : Nat) (s1 : Nat) : fl_ca fl_C 29 126 [some (.ref v0)] [.ref s0, .ref s1] [] (some (some none, h)) = if (decide (fl_k h s1 = (1, 10)) && decide (s0 < (h).1.1)) = true then (fl_Rn fl_C 29 129 [some (.ref v0)] [] (fl_sr h s1 12 s0)) else none := (fl_run_eq fl_C 400 29 126 _ _ _).trans rfl
set_option maxRecDepth 100000 in
theorem fbP_29_140 (h : fl_H) (v0 : Nat) : fl_ca fl_C 29 140 [some (.ref v0)] [] [] (some (some none, h)) = fl_Rn fl_C 29 140 [some (.ref v0)] [] h := rfl
set_option maxRecDepth 100000 in
theorem fbP_29_151 (h : fl_H) (v0 : Nat) : fl_ca fl_C 29 151 [some (.ref v0)] [] [] (some (some none, h)) = fl_Rn fl_C 29 151 [some (.ref v0)] [] h := rfl
set_option maxRecDepth 100000 in
theorem fbP_29_158 (h : fl_H) : fl_ca fl_C 29 158 [] [] [] (some (some none, h)) = fl_Rn fl_C 29 158 [] [] h := rfl
-- FaultListsModel.<init>()V
set_option maxRecDepth 100000 in
theorem fbE_30 (h : fl_H) (this : Nat) : fl_cl fl_C 30 [.ref this] h = if (h.1.2.2.2 && decide (h.1.1 < 1000000) && decide (¬ (32 : Int32) < 0) && decide (Int32.toNatClampNeg 32 < 100000)) = true then (if (decide (fl_k (fl_mk h (3, Int32.toNatClampNeg 32) (Int32.toNatClampNeg 32)) this = (1, 11)) && decide (h.1.1 < (fl_mk h (3, Int32.toNatClampNeg 32) (Int32.toNatClampNeg 32)).1.1)) = true then (fl_Rn fl_C 30 12 [some (.ref this)] [] (fl_sr (fl_mk h (3, Int32.toNatClampNeg 32) (Int32.toNatClampNeg 32)) this 2 h.1.1)) else none) else none := (fl_run_eq fl_C 400 30 0 _ _ _).trans rfl
set_option maxRecDepth 100000 in
theorem fbC_30_12 (h : fl_H) (v0 : Nat) : fl_Rn fl_C 30 12 [some (.ref v0)] [] h = if (h.1.2.2.2 && decide (h.1.1 < 1000000) && decide (¬ (80 : Int32) < 0) && decide (Int32.toNatClampNeg 80 < 100000)) = true then (if (decide (fl_k (fl_mk h (2, Int32.toNatClampNeg 80) (Int32.toNatClampNeg 80)) v0 = (1, 11)) && decide (h.1.1 < (fl_mk h (2, Int32.toNatClampNeg 80) (Int32.toNatClampNeg 80)).1.1)) = true then (fl_Rn fl_C 30 20 [some (.ref v0)] [] (fl_sr (fl_mk h (2, Int32.toNatClampNeg 80) (Int32.toNatClampNeg 80)) v0 3 h.1.1)) else none) else none := (fl_run_eq fl_C 400 30 12 _ _ _).trans rfl
set_option maxRecDepth 100000 in
theorem fbC_30_20 (h : fl_H) (v0 : Nat) : fl_Rn fl_C 30 20 [some (.ref v0)] [] h = if (h.1.2.2.2 && decide (h.1.1 < 1000000) && decide (¬ (630 : Int32) < 0) && decide (Int32.toNatClampNeg 630 < 100000)) = true then (if (decide (fl_k (fl_mk h (2, Int32.toNatClampNeg 630) (Int32.toNatClampNeg 630)) v0 = (1, 11)) && decide (h.1.1 < (fl_mk h (2, Int32.toNatClampNeg 630) (Int32.toNatClampNeg 630)).1.1)) = true then (fl_Rn fl_C 30 29 [some (.ref v0)] [] (fl_sr (fl_mk h (2, Int32.toNatClampNeg 630) (Int32.toNatClampNeg 630)) v0 7 h.1.1)) else none) else none := (fl_run_eq fl_C 400 30 20 _ _ _).trans rfl
set_option maxRecDepth 100000 in
theorem fbC_30_29 (h : fl_H) (v0 : Nat) : fl_Rn fl_C 30 29 [some (.ref v0)] [] h = if (h.1.2.2.2 && decide (h.1.1 < 1000000) && decide (¬ (3 : Int32) < 0) && decide (Int32.toNatClampNeg 3 < 100000)) = true then (if (decide (fl_k (fl_mk h (3, Int32.toNatClampNeg 3) (Int32.toNatClampNeg 3)) v0 = (1, 11)) && decide (h.1.1 < (fl_mk h (3, Int32.toNatClampNeg 3) (Int32.toNatClampNeg 3)).1.1)) = true then (fl_Rn fl_C 30 36 [some (.ref v0)] [] (fl_sr (fl_mk h (3, Int32.toNatClampNeg 3) (Int32.toNatClampNeg 3)) v0 8 h.1.1)) else none) else none := (fl_run_eq fl_C 400 30 29 _ _ _).trans rfl
set_option maxRecDepth 100000 in
theorem fbC_30_36 (h : fl_H) (v0 : Nat) : fl_Rn fl_C 30 36 [some (.ref v0)] [] h = if (h.1.2.2.2 && decide (h.1.1 < 1000000) && decide (¬ (4 : Int32) < 0) && decide (Int32.toNatClampNeg 4 < 100000)) = true then (if (decide (fl_k (fl_mk h (2, Int32.toNatClampNeg 4) (Int32.toNatClampNeg 4)) v0 = (1, 11)) && decide (h.1.1 < (fl_mk h (2, Int32.toNatClampNeg 4) (Int32.toNatClampNeg 4)).1.1)) = true then (fl_Rn fl_C 30 43 [some (.ref v0)] [] (fl_sr (fl_mk h (2, Int32.toNatClampNeg 4) (Int32.toNatClampNeg 4)) v0 9 h.1.1)) else none) else none := (fl_run_eq fl_C 400 30 36 _ _ _).trans rfl
set_option maxRecDepth 100000 in
theorem fbC_30_43 (h : fl_H) (v0 : Nat) : fl_Rn fl_C 30 43 [some (.ref v0)] [] h = if (h.1.2.2.2 && decide (h.1.1 < 1000000) && decide (¬ (4 : Int32) < 0) && decide (Int32.toNatClampNeg 4 < 100000)) = true then (if (decide (fl_k (fl_mk h (2, Int32.toNatClampNeg 4) (Int32.toNatClampNeg 4)) v0 = (1, 11)) && decide (h.1.1 < (fl_mk h (2, Int32.toNatClampNeg 4) (Int32.toNatClampNeg 4)).1.1)) = true then (fl_Rn fl_C 30 50 [some (.ref v0)] [] (fl_sr (fl_mk h (2, Int32.toNatClampNeg 4) (Int32.toNatClampNeg 4)) v0 10 h.1.1)) else none) else none := (fl_run_eq fl_C 400 30 43 _ _ _).trans rfl
set_option maxRecDepth 100000 in
theorem fbC_30_50 (h : fl_H) (v0 : Nat) : fl_Rn fl_C 30 50 [some (.ref v0)] [] h = if (h.1.2.2.2 && decide (h.1.1 < 1000000) && decide (¬ (12 : Int32) < 0) && decide (Int32.toNatClampNeg 12 < 100000)) = true then (if (decide (fl_k (fl_mk h (2, Int32.toNatClampNeg 12) (Int32.toNatClampNeg 12)) v0 = (1, 11)) && decide (h.1.1 < (fl_mk h (2, Int32.toNatClampNeg 12) (Int32.toNatClampNeg 12)).1.1)) = true then (fl_Rn fl_C 30 58 [some (.ref v0)] [] (fl_sr (fl_mk h (2, Int32.toNatClampNeg 12) (Int32.toNatClampNeg 12)) v0 13 h.1.1)) else none) else none := (fl_run_eq fl_C 400 30 50 _ _ _).trans rfl
set_option maxRecDepth 100000 in
theorem fbC_30_58 (h : fl_H) (v0 : Nat) : fl_Rn fl_C 30 58 [some (.ref v0)] [] h = if (h.1.2.2.2 && decide (h.1.1 < 1000000) && decide (¬ (12 : Int32) < 0) && decide (Int32.toNatClampNeg 12 < 100000)) = true then (if (decide (fl_k (fl_mk h (2, Int32.toNatClampNeg 12) (Int32.toNatClampNeg 12)) v0 = (1, 11)) && decide (h.1.1 < (fl_mk h (2, Int32.toNatClampNeg 12) (Int32.toNatClampNeg 12)).1.1)) = true then (fl_Rn fl_C 30 66 [some (.ref v0)] [] (fl_sr (fl_mk h (2, Int32.toNatClampNeg 12) (Int32.toNatClampNeg 12)) v0 14 h.1.1)) else none) else none := (fl_run_eq fl_C 400 30 58 _ _ _).trans rfl
set_option maxRecDepth 100000 in
theorem fbC_30_66 (h : fl_H) (v0 : Nat) : fl_Rn fl_C 30 66 [some (.ref v0)] [] h = if (h.1.2.2.2 && decide (h.1.1 < 1000000) && decide (¬ (25 : Int32) < 0) && decide (Int32.toNatClampNeg 25 < 100000)) = true then (if (decide (fl_k (fl_mk h (2, Int32.toNatClampNeg 25) (Int32.toNatClampNeg 25)) v0 = (1, 11)) && decide (h.1.1 < (fl_mk h (2, Int32.toNatClampNeg 25) (Int32.toNatClampNeg 25)).1.1)) = true then (fl_Rn fl_C 30 74 [some (.ref v0)] [] (fl_sr (fl_mk h (2, Int32.toNatClampNeg 25) (Int32.toNatClampNeg 25)) v0 15 h.1.1)) else none) else none := (fl_run_eq fl_C 400 30 66 _ _ _).trans rfl
set_option maxRecDepth 100000 in
theorem fbC_30_74 (h : fl_H) (v0 : Nat) : fl_Rn fl_C 30 74 [some (.ref v0)] [] h = if (h.1.2.2.2 && decide (h.1.1 < 1000000) && decide (¬ (300 : Int32) < 0) && decide (Int32.toNatClampNeg 300 < 100000)) = true then (if (decide (fl_k (fl_mk h (2, Int32.toNatClampNeg 300) (Int32.toNatClampNeg 300)) v0 = (1, 11)) && decide (h.1.1 < (fl_mk h (2, Int32.toNatClampNeg 300) (Int32.toNatClampNeg 300)).1.1)) = true then (fl_Rn fl_C 30 83 [some (.ref v0)] [] (fl_sr (fl_mk h (2, Int32.toNatClampNeg 300) (Int32.toNatClampNeg 300)) v0 17 h.1.1)) else none) else none := (fl_run_eq fl_C 400 30 74 _ _ _).trans rfl
set_option maxRecDepth 100000 in
theorem fbC_30_83 (h : fl_H) (v0 : Nat) : fl_Rn fl_C 30 83 [some (.ref v0)] [] h = if (h.1.2.2.2 && decide (h.1.1 < 1000000) && decide (¬ (12 : Int32) < 0) && decide (Int32.toNatClampNeg 12 < 100000)) = true then (if (decide (fl_k (fl_mk h (2, Int32.toNatClampNeg 12) (Int32.toNatClampNeg 12)) v0 = (1, 11)) && decide (h.1.1 < (fl_mk h (2, Int32.toNatClampNeg 12) (Int32.toNatClampNeg 12)).1.1)) = true then (fl_Rn fl_C 30 91 [some (.ref v0)] [] (fl_sr (fl_mk h (2, Int32.toNatClampNeg 12) (Int32.toNatClampNeg 12)) v0 18 h.1.1)) else none) else none := (fl_run_eq fl_C 400 30 83 _ _ _).trans rfl
set_option maxRecDepth 100000 in
theorem fbC_30_91 (h : fl_H) (v0 : Nat) : fl_Rn fl_C 30 91 [some (.ref v0)] [] h = if (h.1.2.2.2 && decide (h.1.1 < 1000000) && decide (¬ (64 : Int32) < 0) && decide (Int32.toNatClampNeg 64 < 100000)) = true then (if (decide (fl_k (fl_mk h (2, Int32.toNatClampNeg 64) (Int32.toNatClampNeg 64)) v0 = (1, 11)) && decide (h.1.1 < (fl_mk h (2, Int32.toNatClampNeg 64) (Int32.toNatClampNeg 64)).1.1)) = true then (fl_Rn fl_C 30 99 [some (.ref v0)] [] (fl_sr (fl_mk h (2, Int32.toNatClampNeg 64) (Int32.toNatClampNeg 64)) v0 19 h.1.1)) else none) else none := (fl_run_eq fl_C 400 30 91 _ _ _).trans rfl
set_option maxRecDepth 100000 in
theorem fbC_30_99 (h : fl_H) (v0 : Nat) : fl_Rn fl_C 30 99 [some (.ref v0)] [] h = if (h.1.2.2.2 && decide (h.1.1 < 1000000) && decide (¬ (64 : Int32) < 0) && decide (Int32.toNatClampNeg 64 < 100000)) = true then (if (decide (fl_k (fl_mk h (2, Int32.toNatClampNeg 64) (Int32.toNatClampNeg 64)) v0 = (1, 11)) && decide (h.1.1 < (fl_mk h (2, Int32.toNatClampNeg 64) (Int32.toNatClampNeg 64)).1.1)) = true then (fl_Rn fl_C 30 107 [some (.ref v0)] [] (fl_sr (fl_mk h (2, Int32.toNatClampNeg 64) (Int32.toNatClampNeg 64)) v0 20 h.1.1)) else none) else none := (fl_run_eq fl_C 400 30 99 _ _ _).trans rfl
set_option maxRecDepth 100000 in
theorem fbC_30_107 (h : fl_H) (v0 : Nat) : fl_Rn fl_C 30 107 [some (.ref v0)] [] h = if (h.1.2.2.2 && decide (h.1.1 < 1000000) && decide (¬ (64 : Int32) < 0) && decide (Int32.toNatClampNeg 64 < 100000)) = true then (if (decide (fl_k (fl_mk h (2, Int32.toNatClampNeg 64) (Int32.toNatClampNeg 64)) v0 = (1, 11)) && decide (h.1.1 < (fl_mk h (2, Int32.toNatClampNeg 64) (Int32.toNatClampNeg 64)).1.1)) = true then (fl_Rn fl_C 30 115 [some (.ref v0)] [] (fl_sr (fl_mk h (2, Int32.toNatClampNeg 64) (Int32.toNatClampNeg 64)) v0 21 h.1.1)) else none) else none := (fl_run_eq fl_C 400 30 107 _ _ _).trans rfl
set_option maxRecDepth 100000 in
theorem fbC_30_115 (h : fl_H) (v0 : Nat) : fl_Rn fl_C 30 115 [some (.ref v0)] [] h = if (h.1.2.2.2 && decide (h.1.1 < 1000000) && decide (¬ (768 : Int32) < 0) && decide (Int32.toNatClampNeg 768 < 100000)) = true then (if (decide (fl_k (fl_mk h (2, Int32.toNatClampNeg 768) (Int32.toNatClampNeg 768)) v0 = (1, 11)) && decide (h.1.1 < (fl_mk h (2, Int32.toNatClampNeg 768) (Int32.toNatClampNeg 768)).1.1)) = true then (fl_Rn fl_C 30 124 [some (.ref v0)] [] (fl_sr (fl_mk h (2, Int32.toNatClampNeg 768) (Int32.toNatClampNeg 768)) v0 22 h.1.1)) else none) else none := (fl_run_eq fl_C 400 30 115 _ _ _).trans rfl
set_option maxRecDepth 100000 in
theorem fbC_30_124 (h : fl_H) (v0 : Nat) : fl_Rn fl_C 30 124 [some (.ref v0)] [] h = if (h.1.2.2.2 && decide (h.1.1 < 1000000) && decide (¬ (768 : Int32) < 0) && decide (Int32.toNatClampNeg 768 < 100000)) = true then (if (decide (fl_k (fl_mk h (2, Int32.toNatClampNeg 768) (Int32.toNatClampNeg 768)) v0 = (1, 11)) && decide (h.1.1 < (fl_mk h (2, Int32.toNatClampNeg 768) (Int32.toNatClampNeg 768)).1.1)) = true then (fl_Rn fl_C 30 133 [some (.ref v0)] [] (fl_sr (fl_mk h (2, Int32.toNatClampNeg 768) (Int32.toNatClampNeg 768)) v0 23 h.1.1)) else none) else none := (fl_run_eq fl_C 400 30 124 _ _ _).trans rfl
set_option maxRecDepth 100000 in
theorem fbC_30_133 (h : fl_H) (v0 : Nat) : fl_Rn fl_C 30 133 [some (.ref v0)] [] h = if (h.1.2.2.2 && decide (h.1.1 < 1000000) && decide (¬ (64 : Int32) < 0) && decide (Int32.toNatClampNeg 64 < 100000)) = true then (if (decide (fl_k (fl_mk h (2, Int32.toNatClampNeg 64) (Int32.toNatClampNeg 64)) v0 = (1, 11)) && decide (h.1.1 < (fl_mk h (2, Int32.toNatClampNeg 64) (Int32.toNatClampNeg 64)).1.1)) = true then (fl_Rn fl_C 30 141 [some (.ref v0)] [] (fl_sr (fl_mk h (2, Int32.toNatClampNeg 64) (Int32.toNatClampNeg 64)) v0 24 h.1.1)) else none) else none := (fl_run_eq fl_C 400 30 133 _ _ _).trans rfl
set_option maxRecDepth 100000 in
theorem fbC_30_141 (h : fl_H) (v0 : Nat) : fl_Rn fl_C 30 141 [some (.ref v0)] [] h = if (h.1.2.2.2 && decide (h.1.1 < 1000000) && decide (¬ (730 : Int32) < 0) && decide (Int32.toNatClampNeg 730 < 100000)) = true then (if (decide (fl_k (fl_mk h (2, Int32.toNatClampNeg 730) (Int32.toNatClampNeg 730)) v0 = (1, 11)) && decide (h.1.1 < (fl_mk h (2, Int32.toNatClampNeg 730) (Int32.toNatClampNeg 730)).1.1)) = true then (fl_Rn fl_C 30 150 [some (.ref v0)] [] (fl_sr (fl_mk h (2, Int32.toNatClampNeg 730) (Int32.toNatClampNeg 730)) v0 25 h.1.1)) else none) else none := (fl_run_eq fl_C 400 30 141 _ _ _).trans rfl
set_option maxRecDepth 100000 in
theorem fbC_30_150 (h : fl_H) (v0 : Nat) : fl_Rn fl_C 30 150 [some (.ref v0)] [] h = if (h.1.2.2.2 && decide (h.1.1 < 1000000) && decide (¬ (730 : Int32) < 0) && decide (Int32.toNatClampNeg 730 < 100000)) = true then (if (decide (fl_k (fl_mk h (2, Int32.toNatClampNeg 730) (Int32.toNatClampNeg 730)) v0 = (1, 11)) && decide (h.1.1 < (fl_mk h (2, Int32.toNatClampNeg 730) (Int32.toNatClampNeg 730)).1.1)) = true then (fl_Rn fl_C 30 159 [some (.ref v0)] [] (fl_sr (fl_mk h (2, Int32.toNatClampNeg 730) (Int32.toNatClampNeg 730)) v0 26 h.1.1)) else none) else none := (fl_run_eq fl_C 400 30 150 _ _ _).trans rfl
set_option maxRecDepth 100000 in
theorem fbC_30_159 (h : fl_H) (v0 : Nat) : fl_Rn fl_C 30 159 [some (.ref v0)] [] h = if (h.1.2.2.2 && decide (h.1.1 < 1000000) && decide (¬ (730 : Int32) < 0) && decide (Int32.toNatClampNeg 730 < 100000)) = true then (if (decide (fl_k (fl_mk h (2, Int32.toNatClampNeg 730) (Int32.toNatClampNeg 730)) v0 = (1, 11)) && decide (h.1.1 < (fl_mk h (2, Int32.toNatClampNeg 730) (Int32.toNatClampNeg 730)).1.1)) = true then (fl_Rn fl_C 30 168 [some (.ref v0)] [] (fl_sr (fl_mk h (2, Int32.toNatClampNeg 730) (Int32.toNatClampNeg 730)) v0 27 h.1.1)) else none) else none := (fl_run_eq fl_C 400 30 159 _ _ _).trans rfl
set_option maxRecDepth 100000 in
theorem fbC_30_168 (h : fl_H) (v0 : Nat) : fl_Rn fl_C 30 168 [some (.ref v0)] [] h = if (h.1.2.2.2 && decide (h.1.1 < 1000000) && decide (¬ (730 : Int32) < 0) && decide (Int32.toNatClampNeg 730 < 100000)) = true then (if (decide (fl_k (fl_mk h (2, Int32.toNatClampNeg 730) (Int32.toNatClampNeg 730)) v0 = (1, 11)) && decide (h.1.1 < (fl_mk h (2, Int32.toNatClampNeg 730) (Int32.toNatClampNeg 730)).1.1)) = true then (fl_Rn fl_C 30 177 [some (.ref v0)] [] (fl_sr (fl_mk h (2, Int32.toNatClampNeg 730) (Int32.toNatClampNeg 730)) v0 28 h.1.1)) else none) else none := (fl_run_eq fl_C 400 30 168 _ _ _).trans rfl
set_option maxRecDepth 100000 in
theorem fbC_30_177 (h : fl_H) (v0 : Nat) : fl_Rn fl_C 30 177 [some (.ref v0)] [] h = if (h.1.2.2.2 && decide (h.1.1 < 1000000) && decide (¬ (6 : Int32) < 0) && decide (Int32.toNatClampNeg 6 < 100000)) = true then (if (decide (fl_k (fl_mk h (2, Int32.toNatClampNeg 6) (Int32.toNatClampNeg 6)) v0 = (1, 11)) && decide (h.1.1 < (fl_mk h (2, Int32.toNatClampNeg 6) (Int32.toNatClampNeg 6)).1.1)) = true then (fl_Rn fl_C 30 185 [some (.ref v0)] [] (fl_sr (fl_mk h (2, Int32.toNatClampNeg 6) (Int32.toNatClampNeg 6)) v0 30 h.1.1)) else none) else none := (fl_run_eq fl_C 400 30 177 _ _ _).trans rfl
set_option maxRecDepth 100000 in
theorem fbC_30_185 (h : fl_H) (v0 : Nat) : fl_Rn fl_C 30 185 [some (.ref v0)] [] h = if (h.1.2.2.2 && decide (h.1.1 < 1000000) && decide (¬ (64 : Int32) < 0) && decide (Int32.toNatClampNeg 64 < 100000)) = true then (if (decide (fl_k (fl_mk h (2, Int32.toNatClampNeg 64) (Int32.toNatClampNeg 64)) v0 = (1, 11)) && decide (h.1.1 < (fl_mk h (2, Int32.toNatClampNeg 64) (Int32.toNatClampNeg 64)).1.1)) = true then (fl_Rn fl_C 30 193 [some (.ref v0)] [] (fl_sr (fl_mk h (2, Int32.toNatClampNeg 64) (Int32.toNatClampNeg 64)) v0 31 h.1.1)) else none) else none := (fl_run_eq fl_C 400 30 185 _ _ _).trans rfl
set_option maxRecDepth 100000 in
theorem fbC_30_193 (h : fl_H) (v0 : Nat) : fl_Rn fl_C 30 193 [some (.ref v0)] [] h = if (h.1.2.2.2 && decide (h.1.1 < 1000000) && decide (¬ (2 : Int32) < 0) && decide (Int32.toNatClampNeg 2 < 100000)) = true then (if (decide (fl_k (fl_mk h (4, Int32.toNatClampNeg 2) (Int32.toNatClampNeg 2)) v0 = (1, 11)) && decide (h.1.1 < (fl_mk h (4, Int32.toNatClampNeg 2) (Int32.toNatClampNeg 2)).1.1)) = true then (fl_Rn fl_C 30 200 [some (.ref v0)] [] (fl_sr (fl_mk h (4, Int32.toNatClampNeg 2) (Int32.toNatClampNeg 2)) v0 33 h.1.1)) else none) else none := (fl_run_eq fl_C 400 30 193 _ _ _).trans rfl
set_option maxRecDepth 100000 in
theorem fbC_30_200 (h : fl_H) (v0 : Nat) : fl_Rn fl_C 30 200 [some (.ref v0)] [] h = if (decide (fl_k h v0 = (1, 11)) && (fl_r h v0 7).isSome) = true then (if (decide ((fl_k h ((fl_r h v0 7).getD 0)).1 = 2) && fl_in 0 (fl_k h ((fl_r h v0 7).getD 0)).2) = true then (fl_Rn fl_C 30 207 [some (.ref v0)] [] (fl_si h ((fl_r h v0 7).getD 0) (Int32.toNatClampNeg 0) 1)) else none) else none := (fl_run_eq fl_C 400 30 200 _ _ _).trans rfl
set_option maxRecDepth 100000 in
theorem fbC_30_207 (h : fl_H) (v0 : Nat) : fl_Rn fl_C 30 207 [some (.ref v0)] [] h = if (decide (fl_k h v0 = (1, 11)) && (fl_r h v0 7).isSome) = true then (if (decide ((fl_k h ((fl_r h v0 7).getD 0)).1 = 2) && fl_in 1 (fl_k h ((fl_r h v0 7).getD 0)).2) = true then (fl_Rn fl_C 30 214 [some (.ref v0)] [] (fl_si h ((fl_r h v0 7).getD 0) (Int32.toNatClampNeg 1) 1)) else none) else none := (fl_run_eq fl_C 400 30 207 _ _ _).trans rfl
set_option maxRecDepth 100000 in
theorem fbC_30_214 (h : fl_H) (v0 : Nat) : fl_Rn fl_C 30 214 [some (.ref v0)] [] h = if (decide (fl_k h v0 = (1, 11)) && (fl_r h v0 7).isSome) = true then (if (decide ((fl_k h ((fl_r h v0 7).getD 0)).1 = 2) && fl_in 3 (fl_k h ((fl_r h v0 7).getD 0)).2) = true then (fl_Rn fl_C 30 221 [some (.ref v0)] [] (fl_si h ((fl_r h v0 7).getD 0) (Int32.toNatClampNeg 3) 1)) else none) else none := (fl_run_eq fl_C 400 30 214 _ _ _).trans rfl
set_option maxRecDepth 100000 in
theorem fbC_30_221 (h : fl_H) (v0 : Nat) : fl_Rn fl_C 30 221 [some (.ref v0)] [] h = if (decide (fl_k h v0 = (1, 11)) && (fl_r h v0 7).isSome) = true then (if (decide ((fl_k h ((fl_r h v0 7).getD 0)).1 = 2) && fl_in 40 (fl_k h ((fl_r h v0 7).getD 0)).2) = true then (fl_Rn fl_C 30 229 [] [] (fl_si h ((fl_r h v0 7).getD 0) (Int32.toNatClampNeg 40) 2)) else none) else none := (fl_run_eq fl_C 400 30 221 _ _ _).trans rfl
set_option maxRecDepth 100000 in
theorem fbC_30_229 (h : fl_H) : fl_Rn fl_C 30 229 [] [] h = some (some none, h) := (fl_run_eq fl_C 400 30 229 _ _ _).trans rfl
-- FaultLists$Pile.size()I
set_option maxRecDepth 100000 in
theorem fbE_31 (h : fl_H) (this : Nat) : fl_cl fl_C 31 [.ref this] h = if (decide (fl_k h this = (1, 5))) = true then (some (some (some (.int (fl_i h this 2))), h)) else none := (fl_run_eq fl_C 400 31 0 _ _ _).trans rfl
-- FaultLists$Pile.add(J)V
set_option maxRecDepth 100000 in
theorem fbE_32 (h : fl_H) (this : Nat) (p0 : Int64) : fl_cl fl_C 32 [.ref this, .long p0] h = if (decide (fl_k h this = (1, 5))) = true then (if (decide (fl_k h this = (1, 5))) = true then (if (decide ((fl_i h this 1) ≤ (fl_i h this 2))) = true then (fl_Rn fl_C 32 33 [] [] h) else (if (decide (fl_k h this = (1, 5)) && (fl_r h this 0).isSome) = true then (if (decide (fl_k h this = (1, 5))) = true then (if (decide (fl_k h ((fl_r h this 0).getD 0) = (1, 1)) && true) = true then (fl_ca fl_C 32 23 [some (.ref this)] [] [] (fl_cl fl_C 20 [.ref ((fl_r h this 0).getD 0), .int (fl_i h this 2), .long p0] h)) else none) else none) else none)) else none) else none := (fl_run_eq fl_C 400 32 0 _ _ _).trans rfl
set_option maxRecDepth 100000 in
theorem fbC_32_33 (h : fl_H) : fl_Rn fl_C 32 33 [] [] h = some (some none, h) := (fl_run_eq fl_C 400 32 33 _ _ _).trans rfl
set_option maxRecDepth 100000 in
theorem fbP_32_23 (h : fl_H) (v0 : Nat) : fl_ca fl_C 32 23 [some (.ref v0)] [] [] (some (some none, h)) = if (decide (fl_k h v0 = (1, 5))) = true then (if (decide (fl_k h v0 = (1, 5))) = true then (fl_Rn fl_C 32 33 [] [] (fl_si h v0 2 ((fl_i h v0 2) + 1))) else none) else none := (fl_run_eq fl_C 400 32 23 _ _ _).trans rfl
-- FaultLists.sign(I)I
set_option maxRecDepth 100000 in
theorem fbE_33 (h : fl_H) (this : Nat) (p0 : Int32) : fl_cl fl_C 33 [.ref this, .int p0] h = if (decide (fl_k h this = (1, 10)) && (fl_r h this 0).isSome) = true then (if (decide (fl_k h ((fl_r h this 0).getD 0) = (1, 5)) && true) = true then (fl_ca fl_C 33 7 [some (.ref this), some (.int p0)] [] [] (fl_cl fl_C 31 [.ref ((fl_r h this 0).getD 0)] h)) else none) else none := (fl_run_eq fl_C 400 33 0 _ _ _).trans rfl
set_option maxRecDepth 100000 in
theorem fbC_33_19 (h : fl_H) (v0 : Nat) (v1 : Int32) (v2 : Int32) : fl_Rn fl_C 33 19 [some (.ref v0), some (.int v1), some (.int v2)] [] h = if (decide (v2 < 0)) = true then (if (decide (fl_k h v0 = (1, 10)) && (fl_r h v0 0).isSome) = true then (if (decide (fl_k h ((fl_r h v0 0).getD 0) = (1, 5)) && true) = true then (fl_ca fl_C 33 51 [] [] [] (fl_cl fl_C 31 [.ref ((fl_r h v0 0).getD 0)] h)) else none) else none) else (if (decide (fl_k h v0 = (1, 10)) && (fl_r h v0 0).isSome) = true then (if (decide (fl_k h ((fl_r h v0 0).getD 0) = (1, 5)) && true) = true then (fl_ca fl_C 33 38 [some (.ref v0), some (.int v1), some (.int v2)] [] [] (fl_cl fl_C 32 [.ref ((fl_r h v0 0).getD 0), .long (Int32.toInt64 (((Int32.toUInt32 v1 >>> (Int32.toUInt32 v2 &&& Int32.toUInt32 31)).toInt32) &&& 255))] h)) else none) else none) := (fl_run_eq fl_C 400 33 19 _ _ _).trans rfl
set_option maxRecDepth 100000 in
theorem fbP_33_7 (h : fl_H) (v0 : Nat) (v1 : Int32) (x : Int32) : fl_ca fl_C 33 7 [some (.ref v0), some (.int v1)] [] [] (some (some (some (.int x)), h)) = if (decide ((x + 4) ≤ 80)) = true then (fl_Rn fl_C 33 19 [some (.ref v0), some (.int v1), some (.int 24)] [] h) else (some (some (some (.int (-1))), h)) := (fl_run_eq fl_C 400 33 7 _ _ _).trans rfl
set_option maxRecDepth 100000 in
theorem fbP_33_38 (h : fl_H) (v0 : Nat) (v1 : Int32) (v2 : Int32) : fl_ca fl_C 33 38 [some (.ref v0), some (.int v1), some (.int v2)] [] [] (some (some none, h)) = fl_Rn fl_C 33 19 [some (.ref v0), some (.int v1), some (.int (v2 + (-8)))] [] h := (fl_run_eq fl_C 400 33 38 _ _ _).trans rfl
set_option maxRecDepth 100000 in
theorem fbP_33_51 (h : fl_H) (x : Int32) : fl_ca fl_C 33 51 [] [] [] (some (some (some (.int x)), h)) = some (some (some (.int x)), h) := (fl_run_eq fl_C 400 33 51 _ _ _).trans rfl
-- FaultListsModel.sign(I)I
set_option maxRecDepth 100000 in
theorem fbE_34 (h : fl_H) (this : Nat) (p0 : Int32) : fl_cl fl_C 34 [.ref this, .int p0] h = if (decide (fl_k h this = (1, 11))) = true then (fl_Rn fl_C 34 5 [some (.ref this), some (.int p0)] [] (fl_si h this 0 0)) else none := (fl_run_eq fl_C 400 34 0 _ _ _).trans rfl
set_option maxRecDepth 100000 in
theorem fbC_34_5 (h : fl_H) (v0 : Nat) (v1 : Int32) : fl_Rn fl_C 34 5 [some (.ref v0), some (.int v1)] [] h = if (decide (fl_k h v0 = (1, 11))) = true then (if (decide ((fl_i h v0 4) ≤ 76)) = true then (fl_Rn fl_C 34 18 [some (.ref v0), some (.int v1), some (.int 0)] [] h) else (some (some (some (.int (-1))), h))) else none := (fl_run_eq fl_C 400 34 5 _ _ _).trans rfl
set_option maxRecDepth 100000 in
theorem fbC_34_18 (h : fl_H) (v0 : Nat) (v1 : Int32) (v2 : Int32) : fl_Rn fl_C 34 18 [some (.ref v0), some (.int v1), some (.int v2)] [] h = if (decide (4 ≤ v2)) = true then (if (decide (fl_k h v0 = (1, 11))) = true then (if (decide (fl_k h v0 = (1, 11))) = true then (fl_Rn fl_C 34 63 [some (.ref v0)] [] (fl_si h v0 4 ((fl_i h v0 4) + 4))) else none) else none) else (if (decide (fl_k h v0 = (1, 11)) && (fl_r h v0 3).isSome) = true then (if (decide (fl_k h v0 = (1, 11))) = true then (if (decide ((fl_k h ((fl_r h v0 3).getD 0)).1 = 2) && fl_in ((fl_i h v0 4) + v2) (fl_k h ((fl_r h v0 3).getD 0)).2) = true then (fl_Rn fl_C 34 47 [some (.ref v0), some (.int v1), some (.int v2)] [] (fl_si h ((fl_r h v0 3).getD 0) (Int32.toNatClampNeg ((fl_i h v0 4) + v2)) ((v1 >>> ((24 - (8 * v2)) &&& 31)) &&& 255))) else none) else none) else none) := (fl_run_eq fl_C 400 34 18 _ _ _).trans rfl
set_option maxRecDepth 100000 in
theorem fbC_34_47 (h : fl_H) (v0 : Nat) (v1 : Int32) (v2 : Int32) : fl_Rn fl_C 34 47 [some (.ref v0), some (.int v1), some (.int v2)] [] h = fl_Rn fl_C 34 18 [some (.ref v0), some (.int v1), some (.int (v2 + 1))] [] h := (fl_run_eq fl_C 400 34 47 _ _ _).trans rfl
set_option maxRecDepth 100000 in
theorem fbC_34_63 (h : fl_H) (v0 : Nat) : fl_Rn fl_C 34 63 [some (.ref v0)] [] h = if (decide (fl_k h v0 = (1, 11))) = true then (some (some (some (.int (fl_i h v0 4))), h)) else none := (fl_run_eq fl_C 400 34 63 _ _ _).trans rfl
-- FaultLists$Pile.cut(I)Z
set_option maxRecDepth 100000 in
theorem fbE_35 (h : fl_H) (this : Nat) (p0 : Int32) : fl_cl fl_C 35 [.ref this, .int p0] h = if (decide (p0 < 0)) = true then (fl_Rn fl_C 35 12 [] [] h) else (if (decide (fl_k h this = (1, 5))) = true then (if (decide (p0 ≤ (fl_i h this 2))) = true then (if (decide (fl_k h this = (1, 5))) = true then (fl_Rn fl_C 35 19 [] [] (fl_si h this 2 p0)) else none) else (fl_Rn fl_C 35 12 [] [] h)) else none) := (fl_run_eq fl_C 400 35 0 _ _ _).trans rfl
set_option maxRecDepth 100000 in
theorem fbC_35_12 (h : fl_H) : fl_Rn fl_C 35 12 [] [] h = some (some (some (.int 0)), h) := (fl_run_eq fl_C 400 35 12 _ _ _).trans rfl
set_option maxRecDepth 100000 in
theorem fbC_35_19 (h : fl_H) : fl_Rn fl_C 35 19 [] [] h = some (some (some (.int 1)), h) := (fl_run_eq fl_C 400 35 19 _ _ _).trans rfl
-- FaultLists.end(I)Z
set_option maxRecDepth 100000 in
theorem fbE_36 (h : fl_H) (this : Nat) (p0 : Int32) : fl_cl fl_C 36 [.ref this, .int p0] h = if (decide (fl_k h this = (1, 10)) && (fl_r h this 0).isSome) = true then (if (decide (fl_k h ((fl_r h this 0).getD 0) = (1, 5)) && true) = true then (fl_ca fl_C 36 8 [] [] [] (fl_cl fl_C 35 [.ref ((fl_r h this 0).getD 0), .int p0] h)) else none) else none := (fl_run_eq fl_C 400 36 0 _ _ _).trans rfl
set_option maxRecDepth 100000 in
theorem fbP_36_8 (h : fl_H) (x : Int32) : fl_ca fl_C 36 8 [] [] [] (some (some (some (.int x)), h)) = if (fl_b01 x) = true then (some (some (some (.int x)), h)) else none := (fl_run_eq fl_C 400 36 8 _ _ _).trans rfl
-- FaultListsModel.in(JJJ)Z
set_option maxRecDepth 100000 in
theorem fbE_37 (h : fl_H) (p0 : Int64) (p1 : Int64) (p2 : Int64) : fl_cl fl_C 37 [.long p0, .long p1, .long p2] h = if (decide ((lg_cmp p0 p1) < 0)) = true then (fl_Rn fl_C 37 17 [] [] h) else (if (decide (0 < (lg_cmp p0 p2))) = true then (fl_Rn fl_C 37 17 [] [] h) else (some (some (some (.int 1)), h))) := (fl_run_eq fl_C 400 37 0 _ _ _).trans rfl
set_option maxRecDepth 100000 in
theorem fbC_37_17 (h : fl_H) : fl_Rn fl_C 37 17 [] [] h = some (some (some (.int 0)), h) := (fl_run_eq fl_C 400 37 17 _ _ _).trans rfl
-- FaultListsModel.end(I)Z
set_option maxRecDepth 100000 in
theorem fbE_38 (h : fl_H) (this : Nat) (p0 : Int32) : fl_cl fl_C 38 [.ref this, .int p0] h = if (decide (fl_k h this = (1, 11))) = true then (fl_Rn fl_C 38 5 [some (.ref this), some (.int p0)] [] (fl_si h this 0 0)) else none := (fl_run_eq fl_C 400 38 0 _ _ _).trans rfl
set_option maxRecDepth 100000 in
theorem fbC_38_5 (h : fl_H) (v0 : Nat) (v1 : Int32) : fl_Rn fl_C 38 5 [some (.ref v0), some (.int v1)] [] h = if (decide (fl_k h v0 = (1, 11))) = true then (fl_ca fl_C 38 16 [some (.ref v0), some (.int v1)] [] [] (fl_cl fl_C 37 [.long (Int32.toInt64 v1), .long 0, .long (Int32.toInt64 (fl_i h v0 4))] h)) else none := (fl_run_eq fl_C 400 38 5 _ _ _).trans rfl
set_option maxRecDepth 100000 in
theorem fbC_38_26 (h : fl_H) : fl_Rn fl_C 38 26 [] [] h = some (some (some (.int 1)), h) := (fl_run_eq fl_C 400 38 26 _ _ _).trans rfl
set_option maxRecDepth 100000 in
theorem fbP_38_16 (h : fl_H) (v0 : Nat) (v1 : Int32) (x : Int32) : fl_ca fl_C 38 16 [some (.ref v0), some (.int v1)] [] [] (some (some (some (.int x)), h)) = if (decide (¬ x = 0)) = true then (if (decide (fl_k h v0 = (1, 11))) = true then (fl_Rn fl_C 38 26 [] [] (fl_si h v0 4 v1)) else none) else (some (some (some (.int 0)), h)) := (fl_run_eq fl_C 400 38 16 _ _ _).trans rfl
-- FaultLists$Net.clear()V
set_option maxRecDepth 100000 in
theorem fbE_39 (h : fl_H) (this : Nat) : fl_cl fl_C 39 [.ref this] h = if (decide (fl_k h this = (1, 4))) = true then (fl_Rn fl_C 39 5 [some (.ref this)] [] (fl_si h this 0 0)) else none := (fl_run_eq fl_C 400 39 0 _ _ _).trans rfl
set_option maxRecDepth 100000 in
theorem fbC_39_5 (h : fl_H) (v0 : Nat) : fl_Rn fl_C 39 5 [some (.ref v0)] [] h = if (decide (fl_k h v0 = (1, 4))) = true then (fl_Rn fl_C 39 10 [some (.ref v0)] [] (fl_si h v0 1 0)) else none := (fl_run_eq fl_C 400 39 5 _ _ _).trans rfl
set_option maxRecDepth 100000 in
theorem fbC_39_10 (h : fl_H) (v0 : Nat) : fl_Rn fl_C 39 10 [some (.ref v0)] [] h = if (decide (fl_k h v0 = (1, 4))) = true then (fl_Rn fl_C 39 15 [some (.ref v0)] [] (fl_si h v0 2 0)) else none := (fl_run_eq fl_C 400 39 10 _ _ _).trans rfl
set_option maxRecDepth 100000 in
theorem fbC_39_15 (h : fl_H) (v0 : Nat) : fl_Rn fl_C 39 15 [some (.ref v0)] [] h = if (decide (fl_k h v0 = (1, 4))) = true then (fl_Rn fl_C 39 20 [some (.ref v0)] [] (fl_si h v0 3 0)) else none := (fl_run_eq fl_C 400 39 15 _ _ _).trans rfl
set_option maxRecDepth 100000 in
theorem fbC_39_20 (h : fl_H) (v0 : Nat) : fl_Rn fl_C 39 20 [some (.ref v0)] [] h = if (decide (fl_k h v0 = (1, 4))) = true then (some (some none, fl_si h v0 4 0)) else none := (fl_run_eq fl_C 400 39 20 _ _ _).trans rfl
-- FaultLists$Pile.clear()V
set_option maxRecDepth 100000 in
theorem fbE_40 (h : fl_H) (this : Nat) : fl_cl fl_C 40 [.ref this] h = if (decide (fl_k h this = (1, 5))) = true then (some (some none, fl_si h this 2 0)) else none := (fl_run_eq fl_C 400 40 0 _ _ _).trans rfl
-- FaultLists$Pile.intAt(I)I
set_option maxRecDepth 100000 in
theorem fbE_41 (h : fl_H) (this : Nat) (p0 : Int32) : fl_cl fl_C 41 [.ref this, .int p0] h = if (decide (fl_k h this = (1, 5)) && (fl_r h this 0).isSome) = true then (if (decide (fl_k h ((fl_r h this 0).getD 0) = (1, 1)) && true) = true then (fl_ca fl_C 41 8 [] [] [] (fl_cl fl_C 24 [.ref ((fl_r h this 0).getD 0), .int p0] h)) else none) else none := (fl_run_eq fl_C 400 41 0 _ _ _).trans rfl
set_option maxRecDepth 100000 in
theorem fbP_41_8 (h : fl_H) (x : Int32) : fl_ca fl_C 41 8 [] [] [] (some (some (some (.int x)), h)) = some (some (some (.int x)), h) := (fl_run_eq fl_C 400 41 8 _ _ _).trans rfl
-- FaultLists$Reader.signOf(LFaultLists$Pile;)I
set_option maxRecDepth 100000 in
theorem fbE_42 (h : fl_H) (this : Nat) (p0 : Nat) : fl_cl fl_C 42 [.ref this, .ref p0] h = if (decide (fl_k h this = (1, 6))) = true then (if (decide (fl_k h p0 = (1, 5)) && true) = true then (fl_ca fl_C 42 8 [some (.ref this), some (.ref p0)] [.int (fl_i h this 3)] [] (fl_cl fl_C 31 [.ref p0] h)) else none) else none := (fl_run_eq fl_C 400 42 0 _ _ _).trans rfl
set_option maxRecDepth 100000 in
theorem fbP_42_8 (h : fl_H) (v0 : Nat) (v1 : Nat) (s0 : Int32) (x : Int32) : fl_ca fl_C 42 8 [some (.ref v0), some (.ref v1)] [.int s0] [] (some (some (some (.int x)), h)) = if (decide (x ≤ s0)) = true then (some (some (some (.int (-1))), h)) else (if (decide (fl_k h v0 = (1, 6))) = true then (if (decide (fl_k h v1 = (1, 5)) && true) = true then (fl_ca fl_C 42 19 [] [] [] (fl_cl fl_C 41 [.ref v1, .int (fl_i h v0 3)] h)) else none) else none) := (fl_run_eq fl_C 400 42 8 _ _ _).trans rfl
set_option maxRecDepth 100000 in
theorem fbP_42_19 (h : fl_H) (x : Int32) : fl_ca fl_C 42 19 [] [] [] (some (some (some (.int x)), h)) = some (some (some (.int x)), h) := (fl_run_eq fl_C 400 42 19 _ _ _).trans rfl
-- FaultLists$Reader.because(II)V
set_option maxRecDepth 100000 in
theorem fbE_43 (h : fl_H) (this : Nat) (p0 : Int32) (p1 : Int32) : fl_cl fl_C 43 [.ref this, .int p0, .int p1] h = if (decide (fl_k h this = (1, 6)) && (fl_r h this 1).isSome) = true then (if (decide (fl_k h ((fl_r h this 1).getD 0) = (1, 5)) && true) = true then (fl_ca fl_C 43 9 [some (.ref this), none, some (.int p1)] [] [] (fl_cl fl_C 32 [.ref ((fl_r h this 1).getD 0), .long (Int32.toInt64 p0)] h)) else none) else none := (fl_run_eq fl_C 400 43 0 _ _ _).trans rfl
set_option maxRecDepth 100000 in
theorem fbP_43_9 (h : fl_H) (v0 : Nat) (v2 : Int32) : fl_ca fl_C 43 9 [some (.ref v0), none, some (.int v2)] [] [] (some (some none, h)) = if (decide (fl_k h v0 = (1, 6)) && (fl_r h v0 2).isSome) = true then (if (decide (fl_k h ((fl_r h v0 2).getD 0) = (1, 5)) && true) = true then (fl_ca fl_C 43 18 [] [] [] (fl_cl fl_C 32 [.ref ((fl_r h v0 2).getD 0), .long (Int32.toInt64 v2)] h)) else none) else none := (fl_run_eq fl_C 400 43 9 _ _ _).trans rfl
set_option maxRecDepth 100000 in
theorem fbP_43_18 (h : fl_H) : fl_ca fl_C 43 18 [] [] [] (some (some none, h)) = some (some none, h) := (fl_run_eq fl_C 400 43 18 _ _ _).trans rfl
-- FaultLists$Reader.refuse(ZII)V
set_option maxRecDepth 100000 in
theorem fbE_44 (h : fl_H) (this : Nat) (p0 : Int32) (p1 : Int32) (p2 : Int32) : fl_cl fl_C 44 [.ref this, .int p0, .int p1, .int p2] h = if (decide (fl_k h this = (1, 6)) && fl_b01 1) = true then (fl_Rn fl_C 44 5 [some (.ref this), some (.int p0), some (.int p1), some (.int p2)] [] (fl_si h this 4 1)) else none := (fl_run_eq fl_C 400 44 0 _ _ _).trans rfl
set_option maxRecDepth 100000 in
theorem fbC_44_5 (h : fl_H) (v0 : Nat) (v1 : Int32) (v2 : Int32) (v3 : Int32) : fl_Rn fl_C 44 5 [some (.ref v0), some (.int v1), some (.int v2), some (.int v3)] [] h = if (decide (fl_k h v0 = (1, 6)) && (fl_r h v0 0).isSome) = true then (if (decide (fl_k h ((fl_r h v0 0).getD 0) = (1, 4))) = true then (if (decide (fl_k h v0 = (1, 6)) && true) = true then (fl_ca fl_C 44 17 [some (.ref v0), some (.int v1), some (.int v2), some (.int v3)] [] [] (fl_cl fl_C 43 [.ref v0, .int 1, .int (fl_i h ((fl_r h v0 0).getD 0) 1)] h)) else none) else none) else none := (fl_run_eq fl_C 400 44 5 _ _ _).trans rfl
set_option maxRecDepth 100000 in
theorem fbC_44_33 (h : fl_H) (v0 : Nat) (v2 : Int32) (v3 : Int32) : fl_Rn fl_C 44 33 [some (.ref v0), none, some (.int v2), some (.int v3)] [] h = if (decide (fl_k h v0 = (1, 6)) && true) = true then (fl_ca fl_C 44 39 [some (.ref v0), none, some (.int v2)] [] [] (fl_cl fl_C 43 [.ref v0, .int v2, .int v3] h)) else none := (fl_run_eq fl_C 400 44 33 _ _ _).trans rfl
set_option maxRecDepth 100000 in
theorem fbC_44_53 (h : fl_H) : fl_Rn fl_C 44 53 [] [] h = some (some none, h) := (fl_run_eq fl_C 400 44 53 _ _ _).trans rfl
set_option maxRecDepth 100000 in
theorem fbP_44_17 (h : fl_H) (v0 : Nat) (v1 : Int32) (v2 : Int32) (v3 : Int32) : fl_ca fl_C 44 17 [some (.ref v0), some (.int v1), some (.int v2), some (.int v3)] [] [] (some (some none, h)) = if (decide (v1 = 0)) = true then (fl_Rn fl_C 44 33 [some (.ref v0), none, some (.int v2), some (.int v3)] [] h) else (if (decide (fl_k h v0 = (1, 6)) && (fl_r h v0 0).isSome) = true then (if (decide (fl_k h ((fl_r h v0 0).getD 0) = (1, 4))) = true then (if (decide (fl_k h v0 = (1, 6)) && true) = true then (fl_ca fl_C 44 33 [some (.ref v0), none, some (.int v2), some (.int v3)] [] [] (fl_cl fl_C 43 [.ref v0, .int 2, .int (fl_i h ((fl_r h v0 0).getD 0) 1)] h)) else none) else none) else none) := (fl_run_eq fl_C 400 44 17 _ _ _).trans rfl
set_option maxRecDepth 100000 in
theorem fbP_44_39 (h : fl_H) (v0 : Nat) (v2 : Int32) : fl_ca fl_C 44 39 [some (.ref v0), none, some (.int v2)] [] [] (some (some none, h)) = if (decide (¬ v2 = 5)) = true then (fl_Rn fl_C 44 53 [] [] h) else (if (decide (fl_k h v0 = (1, 6))) = true then (if (decide (fl_k h v0 = (1, 6)) && true) = true then (fl_ca fl_C 44 53 [] [] [] (fl_cl fl_C 43 [.ref v0, .int 3, .int (fl_i h v0 3)] h)) else none) else none) := (fl_run_eq fl_C 400 44 39 _ _ _).trans rfl
set_option maxRecDepth 100000 in
theorem fbP_44_33 (h : fl_H) (v0 : Nat) (v2 : Int32) (v3 : Int32) : fl_ca fl_C 44 33 [some (.ref v0), none, some (.int v2), some (.int v3)] [] [] (some (some none, h)) = fl_Rn fl_C 44 33 [some (.ref v0), none, some (.int v2), some (.int v3)] [] h := rfl
set_option maxRecDepth 100000 in
theorem fbP_44_53 (h : fl_H) : fl_ca fl_C 44 53 [] [] [] (some (some none, h)) = fl_Rn fl_C 44 53 [] [] h := rfl
-- FaultLists$Reader.readInputs(LFaultLists$Pile;)V
set_option maxRecDepth 100000 in
theorem fbE_45 (h : fl_H) (this : Nat) (p0 : Nat) : fl_cl fl_C 45 [.ref this, .ref p0] h = if (decide (fl_k h this = (1, 6)) && true) = true then (fl_ca fl_C 45 5 [some (.ref this)] [] [] (fl_cl fl_C 42 [.ref this, .ref p0] h)) else none := (fl_run_eq fl_C 400 45 0 _ _ _).trans rfl
set_option maxRecDepth 100000 in
theorem fbC_45_18 (h : fl_H) (v0 : Nat) : fl_Rn fl_C 45 18 [some (.ref v0)] [] h = if (decide (fl_k h v0 = (1, 6))) = true then (if (decide (fl_k h v0 = (1, 6)) && true) = true then (fl_ca fl_C 45 28 [] [] [] (fl_cl fl_C 44 [.ref v0, .int 0, .int 3, .int (fl_i h v0 3)] h)) else none) else none := (fl_run_eq fl_C 400 45 18 _ _ _).trans rfl
set_option maxRecDepth 100000 in
theorem fbP_45_5 (h : fl_H) (v0 : Nat) (x : Int32) : fl_ca fl_C 45 5 [some (.ref v0)] [] [] (some (some (some (.int x)), h)) = if (decide (x < 49)) = true then (fl_Rn fl_C 45 18 [some (.ref v0)] [] h) else (if (decide (x ≤ 52)) = true then (if (decide (fl_k h v0 = (1, 6)) && (fl_r h v0 0).isSome) = true then (if (decide (fl_k h ((fl_r h v0 0).getD 0) = (1, 4)) && true) = true then (fl_ca fl_C 45 40 [some (.ref v0)] [] [] (fl_cl fl_C 22 [.ref ((fl_r h v0 0).getD 0), .int (x - 48)] h)) else none) else none) else (fl_Rn fl_C 45 18 [some (.ref v0)] [] h)) := (fl_run_eq fl_C 400 45 5 _ _ _).trans rfl
set_option maxRecDepth 100000 in
theorem fbP_45_28 (h : fl_H) : fl_ca fl_C 45 28 [] [] [] (some (some none, h)) = some (some none, h) := (fl_run_eq fl_C 400 45 28 _ _ _).trans rfl
set_option maxRecDepth 100000 in
theorem fbP_45_40 (h : fl_H) (v0 : Nat) : fl_ca fl_C 45 40 [some (.ref v0)] [] [] (some (some none, h)) = if (decide (fl_k h v0 = (1, 6))) = true then (if (decide (fl_k h v0 = (1, 6))) = true then (some (some none, fl_si h v0 3 ((fl_i h v0 3) + 1))) else none) else none := (fl_run_eq fl_C 400 45 40 _ _ _).trans rfl
-- java/lang/String.isLatin1()Z
set_option maxRecDepth 100000 in
theorem fbE_46 (h : fl_H) (this : Nat) : fl_cl fl_C 46 [.ref this] h = if (decide ((1 : Int32) = 0)) = true then (fl_Rn fl_C 46 17 [] [] h) else (if (decide ((fl_k h this).1 = 7)) = true then (if (decide (¬ (0 : Int32) = 0)) = true then (fl_Rn fl_C 46 17 [] [] h) else (some (some (some (.int 1)), h))) else none) := (fl_run_eq fl_C 400 46 0 _ _ _).trans rfl
set_option maxRecDepth 100000 in
theorem fbC_46_17 (h : fl_H) : fl_Rn fl_C 46 17 [] [] h = some (some (some (.int 0)), h) := (fl_run_eq fl_C 400 46 17 _ _ _).trans rfl
-- java/lang/String.coder()B
set_option maxRecDepth 100000 in
theorem fbE_47 (h : fl_H) (this : Nat) : fl_cl fl_C 47 [.ref this] h = if (decide ((1 : Int32) = 0)) = true then (if (decide ((Int32.toInt8 1).toInt32 = 1)) = true then (some (some (some (.int 1)), h)) else none) else (if (decide ((fl_k h this).1 = 7)) = true then (if (decide ((Int32.toInt8 0).toInt32 = 0)) = true then (some (some (some (.int 0)), h)) else none) else none) := (fl_run_eq fl_C 400 47 0 _ _ _).trans rfl
-- java/lang/String.length()I
set_option maxRecDepth 100000 in
theorem fbE_48 (h : fl_H) (this : Nat) : fl_cl fl_C 48 [.ref this] h = if (decide ((fl_k h this).1 = 7)) = true then (if (decide ((fl_k h (this + 16)).1 = 5)) = true then (if (decide ((fl_k h this).1 = 7) && true) = true then (fl_ca fl_C 48 9 [] [.int (Int32.ofNat (fl_k h (this + 16)).2)] [] (fl_cl fl_C 47 [.ref this] h)) else none) else none) else none := (fl_run_eq fl_C 400 48 0 _ _ _).trans rfl
set_option maxRecDepth 100000 in
theorem fbP_48_9 (h : fl_H) (s0 : Int32) (x : Int32) : fl_ca fl_C 48 9 [] [.int s0] [] (some (some (some (.int x)), h)) = some (some (some (.int (s0 >>> (x &&& 31)))), h) := (fl_run_eq fl_C 400 48 9 _ _ _).trans rfl
-- java/lang/StringLatin1.canEncode(I)Z
set_option maxRecDepth 100000 in
theorem fbE_49 (h : fl_H) (p0 : Int32) : fl_cl fl_C 49 [.int p0] h = if (decide (p0 < 0)) = true then (fl_Rn fl_C 49 15 [] [] h) else (if (decide (255 < p0)) = true then (fl_Rn fl_C 49 15 [] [] h) else (some (some (some (.int 1)), h))) := (fl_run_eq fl_C 400 49 0 _ _ _).trans rfl
set_option maxRecDepth 100000 in
theorem fbC_49_15 (h : fl_H) : fl_Rn fl_C 49 15 [] [] h = some (some (some (.int 0)), h) := (fl_run_eq fl_C 400 49 15 _ _ _).trans rfl
-- java/lang/Math.max(II)I
set_option maxRecDepth 100000 in
theorem fbE_50 (h : fl_H) (p0 : Int32) (p1 : Int32) : fl_cl fl_C 50 [.int p0, .int p1] h = if (decide (p0 < p1)) = true then (some (some (some (.int p1)), h)) else (some (some (some (.int p0)), h)) := (fl_run_eq fl_C 400 50 0 _ _ _).trans rfl
-- java/lang/Math.min(II)I
set_option maxRecDepth 100000 in
theorem fbE_51 (h : fl_H) (p0 : Int32) (p1 : Int32) : fl_cl fl_C 51 [.int p0, .int p1] h = if (decide (p1 < p0)) = true then (some (some (some (.int p1)), h)) else (some (some (some (.int p0)), h)) := (fl_run_eq fl_C 400 51 0 _ _ _).trans rfl
-- java/lang/StringLatin1.indexOfChar([BIII)I
set_option maxRecDepth 100000 in
theorem fbE_52 (h : fl_H) (p0 : Nat) (p1 : Int32) (p2 : Int32) (p3 : Int32) : fl_cl fl_C 52 [.ref p0, .int p1, .int p2, .int p3] h = fl_Rn fl_C 52 7 [some (.ref p0), none, none, some (.int p3), some (.int ((Int32.toInt8 p1).toInt32)), some (.int p2)] [] h := (fl_run_eq fl_C 400 52 0 _ _ _).trans rfl
set_option maxRecDepth 100000 in
theorem fbC_52_7 (h : fl_H) (v0 : Nat) (v3 : Int32) (v4 : Int32) (v5 : Int32) : fl_Rn fl_C 52 7 [some (.ref v0), none, none, some (.int v3), some (.int v4), some (.int v5)] [] h = if (decide (v3 ≤ v5)) = true then (some (some (some (.int (-1))), h)) else (if (decide ((fl_k h v0).1 = 5) && fl_in v5 (fl_k h v0).2) = true then (if (decide (¬ (fl_i h v0 (Int32.toNatClampNeg v5)) = v4)) = true then (fl_Rn fl_C 52 7 [some (.ref v0), none, none, some (.int v3), some (.int v4), some (.int (v5 + 1))] [] h) else (some (some (some (.int v5)), h))) else none) := (fl_run_eq fl_C 400 52 7 _ _ _).trans rfl
-- java/lang/StringLatin1.indexOf([BIII)I
set_option maxRecDepth 100000 in
theorem fbE_53 (h : fl_H) (p0 : Nat) (p1 : Int32) (p2 : Int32) (p3 : Int32) : fl_cl fl_C 53 [.ref p0, .int p1, .int p2, .int p3] h = fl_ca fl_C 53 4 [some (.ref p0), some (.int p1), some (.int p2), some (.int p3)] [] [] (fl_cl fl_C 49 [.int p1] h) := (fl_run_eq fl_C 400 53 0 _ _ _).trans rfl
set_option maxRecDepth 100000 in
theorem fbP_53_4 (h : fl_H) (v0 : Nat) (v1 : Int32) (v2 : Int32) (v3 : Int32) (x : Int32) : fl_ca fl_C 53 4 [some (.ref v0), some (.int v1), some (.int v2), some (.int v3)] [] [] (some (some (some (.int x)), h)) = if (decide (¬ x = 0)) = true then (fl_ca fl_C 53 14 [some (.ref v0), some (.int v1), none, some (.int v3)] [] [] (fl_cl fl_C 50 [.int v2, .int 0] h)) else (some (some (some (.int (-1))), h)) := (fl_run_eq fl_C 400 53 4 _ _ _).trans rfl
set_option maxRecDepth 100000 in
theorem fbP_53_14 (h : fl_H) (v0 : Nat) (v1 : Int32) (v3 : Int32) (x : Int32) : fl_ca fl_C 53 14 [some (.ref v0), some (.int v1), none, some (.int v3)] [] [] (some (some (some (.int x)), h)) = if (decide ((fl_k h v0).1 = 5)) = true then (fl_ca fl_C 53 21 [some (.ref v0), some (.int v1), some (.int x)] [] [] (fl_cl fl_C 51 [.int v3, .int (Int32.ofNat (fl_k h v0).2)] h)) else none := (fl_run_eq fl_C 400 53 14 _ _ _).trans rfl
set_option maxRecDepth 100000 in
theorem fbP_53_21 (h : fl_H) (v0 : Nat) (v1 : Int32) (v2 : Int32) (x : Int32) : fl_ca fl_C 53 21 [some (.ref v0), some (.int v1), some (.int v2)] [] [] (some (some (some (.int x)), h)) = if (decide (v2 < x)) = true then (fl_ca fl_C 53 36 [] [] [] (fl_cl fl_C 52 [.ref v0, .int v1, .int v2, .int x] h)) else (some (some (some (.int (-1))), h)) := (fl_run_eq fl_C 400 53 21 _ _ _).trans rfl
set_option maxRecDepth 100000 in
theorem fbP_53_36 (h : fl_H) (x : Int32) : fl_ca fl_C 53 36 [] [] [] (some (some (some (.int x)), h)) = some (some (some (.int x)), h) := (fl_run_eq fl_C 400 53 36 _ _ _).trans rfl
-- java/lang/String.indexOf(II)I
set_option maxRecDepth 100000 in
theorem fbE_54 (h : fl_H) (this : Nat) (p0 : Int32) (p1 : Int32) : fl_cl fl_C 54 [.ref this, .int p0, .int p1] h = if (decide ((fl_k h this).1 = 7) && true) = true then (fl_ca fl_C 54 4 [some (.ref this), some (.int p0), some (.int p1)] [] [] (fl_cl fl_C 46 [.ref this] h)) else none := (fl_run_eq fl_C 400 54 0 _ _ _).trans rfl
set_option maxRecDepth 100000 in
theorem fbP_54_4 (h : fl_H) (v0 : Nat) (v1 : Int32) (v2 : Int32) (x : Int32) : fl_ca fl_C 54 4 [some (.ref v0), some (.int v1), some (.int v2)] [] [] (some (some (some (.int x)), h)) = if (decide (x = 0)) = true then (if (decide ((fl_k h v0).1 = 7)) = true then (if (decide ((fl_k h v0).1 = 7) && true) = true then (fl_ca fl_C 54 33 [] [.int v2, .int v1, .ref (v0 + 16)] [] (fl_cl fl_C 48 [.ref v0] h)) else none) else none) else (if (decide ((fl_k h v0).1 = 7)) = true then (if (decide ((fl_k h v0).1 = 7) && true) = true then (fl_ca fl_C 54 17 [] [.int v2, .int v1, .ref (v0 + 16)] [] (fl_cl fl_C 48 [.ref v0] h)) else none) else none) := (fl_run_eq fl_C 400 54 4 _ _ _).trans rfl
set_option maxRecDepth 100000 in
theorem fbP_54_17 (h : fl_H) (s0 : Int32) (s1 : Int32) (s2 : Nat) (x : Int32) : fl_ca fl_C 54 17 [] [.int s0, .int s1, .ref s2] [] (some (some (some (.int x)), h)) = fl_ca fl_C 54 20 [] [] [] (fl_cl fl_C 53 [.ref s2, .int s1, .int s0, .int x] h) := (fl_run_eq fl_C 400 54 17 _ _ _).trans rfl
set_option maxRecDepth 100000 in
theorem fbP_54_33 (h : fl_H) (s0 : Int32) (s1 : Int32) (s2 : Nat) (x : Int32) : fl_ca fl_C 54 33 [] [.int s0, .int s1, .ref s2] [] (some (some (some (.int x)), h)) = none := (fl_run_eq fl_C 400 54 33 _ _ _).trans rfl
set_option maxRecDepth 100000 in
theorem fbP_54_20 (h : fl_H) (x : Int32) : fl_ca fl_C 54 20 [] [] [] (some (some (some (.int x)), h)) = some (some (some (.int x)), h) := (fl_run_eq fl_C 400 54 20 _ _ _).trans rfl
-- java/lang/String.indexOf(I)I
set_option maxRecDepth 100000 in
theorem fbE_55 (h : fl_H) (this : Nat) (p0 : Int32) : fl_cl fl_C 55 [.ref this, .int p0] h = if (decide ((fl_k h this).1 = 7) && true) = true then (fl_ca fl_C 55 6 [] [] [] (fl_cl fl_C 54 [.ref this, .int p0, .int 0] h)) else none := (fl_run_eq fl_C 400 55 0 _ _ _).trans rfl
set_option maxRecDepth 100000 in
theorem fbP_55_6 (h : fl_H) (x : Int32) : fl_ca fl_C 55 6 [] [] [] (some (some (some (.int x)), h)) = some (some (some (.int x)), h) := (fl_run_eq fl_C 400 55 6 _ _ _).trans rfl
-- FaultLists$Reader.letterOf(LFaultLists$Pile;)I
set_option maxRecDepth 100000 in
theorem fbE_56 (h : fl_H) (this : Nat) (p0 : Nat) : fl_cl fl_C 56 [.ref this, .ref p0] h = if (decide (fl_k h this = (1, 6)) && true) = true then (fl_ca fl_C 56 5 [] [] [] (fl_cl fl_C 42 [.ref this, .ref p0] h)) else none := (fl_run_eq fl_C 400 56 0 _ _ _).trans rfl
set_option maxRecDepth 100000 in
theorem fbC_56_23 (h : fl_H) : fl_Rn fl_C 56 23 [] [] h = some (some (some (.int (-1))), h) := (fl_run_eq fl_C 400 56 23 _ _ _).trans rfl
set_option maxRecDepth 100000 in
theorem fbP_56_5 (h : fl_H) (x : Int32) : fl_ca fl_C 56 5 [] [] [] (some (some (some (.int x)), h)) = if (decide ((x - 97) < 0)) = true then (fl_Rn fl_C 56 23 [] [] h) else (if (decide (12 ≤ (x - 97))) = true then (fl_Rn fl_C 56 23 [] [] h) else (some (some (some (.int (x - 97))), h))) := (fl_run_eq fl_C 400 56 5 _ _ _).trans rfl
-- FaultLists$Net.addPin(I)V
set_option maxRecDepth 100000 in
theorem fbE_57 (h : fl_H) (this : Nat) (p0 : Int32) : fl_cl fl_C 57 [.ref this, .int p0] h = if (decide (fl_k h this = (1, 4)) && (fl_r h this 9).isSome) = true then (if (decide (fl_k h this = (1, 4))) = true then (if (decide (fl_k h ((fl_r h this 9).getD 0) = (1, 1)) && true) = true then (fl_ca fl_C 57 13 [some (.ref this)] [] [] (fl_cl fl_C 20 [.ref ((fl_r h this 9).getD 0), .int (fl_i h this 2), .long (Int32.toInt64 p0)] h)) else none) else none) else none := (fl_run_eq fl_C 400 57 0 _ _ _).trans rfl
set_option maxRecDepth 100000 in
theorem fbP_57_13 (h : fl_H) (v0 : Nat) : fl_ca fl_C 57 13 [some (.ref v0)] [] [] (some (some none, h)) = if (decide (fl_k h v0 = (1, 4))) = true then (if (decide (fl_k h v0 = (1, 4))) = true then (some (some none, fl_si h v0 2 ((fl_i h v0 2) + 1))) else none) else none := (fl_run_eq fl_C 400 57 13 _ _ _).trans rfl
-- FaultLists$Reader.readPin(LFaultLists$Pile;I)V
set_option maxRecDepth 100000 in
theorem fbE_58 (h : fl_H) (this : Nat) (p0 : Nat) (p1 : Int32) : fl_cl fl_C 58 [.ref this, .ref p0, .int p1] h = if (decide (fl_k h this = (1, 6)) && true) = true then (fl_ca fl_C 58 5 [some (.ref this), none, some (.int p1)] [] [] (fl_cl fl_C 56 [.ref this, .ref p0] h)) else none := (fl_run_eq fl_C 400 58 0 _ _ _).trans rfl
set_option maxRecDepth 100000 in
theorem fbC_58_51 (h : fl_H) (v0 : Nat) (v3 : Int32) : fl_Rn fl_C 58 51 [some (.ref v0), none, none, some (.int v3)] [] h = if (decide (fl_k h v0 = (1, 6)) && (fl_r h v0 0).isSome) = true then (if (decide (fl_k h ((fl_r h v0 0).getD 0) = (1, 4))) = true then (if (decide ((fl_i h ((fl_r h v0 0).getD 0) 2) < 20)) = true then (if (decide (fl_k h v0 = (1, 6)) && (fl_r h v0 0).isSome) = true then (if (decide (fl_k h ((fl_r h v0 0).getD 0) = (1, 4)) && true) = true then (fl_ca fl_C 58 84 [some (.ref v0)] [] [] (fl_cl fl_C 57 [.ref ((fl_r h v0 0).getD 0), .int v3] h)) else none) else none) else (if (decide (fl_k h v0 = (1, 6))) = true then (if (decide (fl_k h v0 = (1, 6)) && true) = true then (fl_ca fl_C 58 73 [] [] [] (fl_cl fl_C 44 [.ref v0, .int 1, .int 4, .int (fl_i h v0 3)] h)) else none) else none)) else none) else none := (fl_run_eq fl_C 400 58 51 _ _ _).trans rfl
set_option maxRecDepth 100000 in
theorem fbC_58_94 (h : fl_H) : fl_Rn fl_C 58 94 [] [] h = some (some none, h) := (fl_run_eq fl_C 400 58 94 _ _ _).trans rfl
set_option maxRecDepth 100000 in
theorem fbP_58_5 (h : fl_H) (v0 : Nat) (v2 : Int32) (x : Int32) : fl_ca fl_C 58 5 [some (.ref v0), none, some (.int v2)] [] [] (some (some (some (.int x)), h)) = if (decide (¬ x = (-1))) = true then (if (decide (v2 = 8)) = true then (fl_Rn fl_C 58 51 [some (.ref v0), none, none, some (.int x)] [] h) else (if (decide (fl_k h v0 = (1, 6)) && (fl_r h v0 0).isSome) = true then (if (decide (fl_k h ((fl_r h v0 0).getD 0) = (1, 4))) = true then (if (decide (x < (fl_i h ((fl_r h v0 0).getD 0) 1))) = true then (fl_Rn fl_C 58 51 [some (.ref v0), none, none, some (.int x)] [] h) else (if (decide (fl_k h v0 = (1, 6)) && true) = true then (fl_ca fl_C 58 48 [] [] [] (fl_cl fl_C 44 [.ref v0, .int 1, .int 5, .int x] h)) else none)) else none) else none)) else (if (decide (fl_k h v0 = (1, 6))) = true then (if (decide (fl_k h v0 = (1, 6)) && true) = true then (fl_ca fl_C 58 21 [] [] [] (fl_cl fl_C 44 [.ref v0, .int 1, .int 3, .int (fl_i h v0 3)] h)) else none) else none) := (fl_run_eq fl_C 400 58 5 _ _ _).trans rfl
set_option maxRecDepth 100000 in
theorem fbP_58_73 (h : fl_H) : fl_ca fl_C 58 73 [] [] [] (some (some none, h)) = fl_Rn fl_C 58 94 [] [] h := (fl_run_eq fl_C 400 58 73 _ _ _).trans rfl
set_option maxRecDepth 100000 in
theorem fbP_58_84 (h : fl_H) (v0 : Nat) : fl_ca fl_C 58 84 [some (.ref v0)] [] [] (some (some none, h)) = if (decide (fl_k h v0 = (1, 6))) = true then (if (decide (fl_k h v0 = (1, 6))) = true then (fl_Rn fl_C 58 94 [] [] (fl_si h v0 3 ((fl_i h v0 3) + 1))) else none) else none := (fl_run_eq fl_C 400 58 84 _ _ _).trans rfl
set_option maxRecDepth 100000 in
theorem fbP_58_21 (h : fl_H) : fl_ca fl_C 58 21 [] [] [] (some (some none, h)) = fl_Rn fl_C 58 94 [] [] h := (fl_run_eq fl_C 400 58 21 _ _ _).trans rfl
set_option maxRecDepth 100000 in
theorem fbP_58_48 (h : fl_H) : fl_ca fl_C 58 48 [] [] [] (some (some none, h)) = fl_Rn fl_C 58 94 [] [] h := (fl_run_eq fl_C 400 58 48 _ _ _).trans rfl
-- FaultLists$Reader.readStart(LFaultLists$Pile;)I
set_option maxRecDepth 100000 in
theorem fbE_59 (h : fl_H) (this : Nat) (p0 : Nat) : fl_cl fl_C 59 [.ref this, .ref p0] h = if (decide (fl_k h this = (1, 6)) && true) = true then (fl_ca fl_C 59 5 [some (.ref this)] [] [] (fl_cl fl_C 42 [.ref this, .ref p0] h)) else none := (fl_run_eq fl_C 400 59 0 _ _ _).trans rfl
set_option maxRecDepth 100000 in
theorem fbC_59_20 (h : fl_H) (v0 : Nat) (v2 : Int32) : fl_Rn fl_C 59 20 [some (.ref v0), none, some (.int v2)] [] h = if (decide (fl_k h v0 = (1, 6))) = true then (if (decide (fl_k h v0 = (1, 6))) = true then (fl_Rn fl_C 59 30 [none, none, some (.int v2)] [] (fl_si h v0 3 ((fl_i h v0 3) + 1))) else none) else none := (fl_run_eq fl_C 400 59 20 _ _ _).trans rfl
set_option maxRecDepth 100000 in
theorem fbC_59_30 (h : fl_H) (v2 : Int32) : fl_Rn fl_C 59 30 [none, none, some (.int v2)] [] h = some (some (some (.int (v2 - 48))), h) := (fl_run_eq fl_C 400 59 30 _ _ _).trans rfl
set_option maxRecDepth 100000 in
theorem fbP_59_5 (h : fl_H) (v0 : Nat) (x : Int32) : fl_ca fl_C 59 5 [some (.ref v0)] [] [] (some (some (some (.int x)), h)) = if (decide (x = 48)) = true then (fl_Rn fl_C 59 20 [some (.ref v0), none, some (.int x)] [] h) else (if (decide (x = 49)) = true then (fl_Rn fl_C 59 20 [some (.ref v0), none, some (.int x)] [] h) else (some (some (some (.int 2)), h))) := (fl_run_eq fl_C 400 59 5 _ _ _).trans rfl
-- FaultLists$Reader.readLine(LFaultLists$Pile;)V
set_option maxRecDepth 100000 in
theorem fbE_60 (h : fl_H) (this : Nat) (p0 : Nat) : fl_cl fl_C 60 [.ref this, .ref p0] h = if (decide (fl_k h this = (1, 6)) && true) = true then (fl_ca fl_C 60 5 [some (.ref this), some (.ref p0)] [] [] (fl_cl fl_C 42 [.ref this, .ref p0] h)) else none := (fl_run_eq fl_C 400 60 0 _ _ _).trans rfl
set_option maxRecDepth 100000 in
theorem fbC_60_69 (h : fl_H) (v0 : Nat) : fl_Rn fl_C 60 69 [some (.ref v0)] [] h = if (decide (fl_k h v0 = (1, 6))) = true then (if (decide (fl_k h v0 = (1, 6)) && true) = true then (fl_ca fl_C 60 79 [] [] [] (fl_cl fl_C 44 [.ref v0, .int 1, .int 4, .int (fl_i h v0 3)] h)) else none) else none := (fl_run_eq fl_C 400 60 69 _ _ _).trans rfl
set_option maxRecDepth 100000 in
theorem fbC_60_80 (h : fl_H) (v0 : Nat) (v1 : Nat) (v3 : Int32) : fl_Rn fl_C 60 80 [some (.ref v0), some (.ref v1), none, some (.int v3)] [] h = if (decide (fl_k h v0 = (1, 6))) = true then (if (decide (fl_k h v0 = (1, 6))) = true then (fl_Rn fl_C 60 90 [some (.ref v0), some (.ref v1), none, some (.int v3)] [] (fl_si h v0 3 ((fl_i h v0 3) + 1))) else none) else none := (fl_run_eq fl_C 400 60 80 _ _ _).trans rfl
set_option maxRecDepth 100000 in
theorem fbC_60_90 (h : fl_H) (v0 : Nat) (v1 : Nat) (v3 : Int32) : fl_Rn fl_C 60 90 [some (.ref v0), some (.ref v1), none, some (.int v3)] [] h = if (decide (fl_k h v0 = (1, 6)) && (fl_r h v0 0).isSome) = true then (if (decide (fl_k h ((fl_r h v0 0).getD 0) = (1, 4))) = true then (if (decide (v3 = 1)) = true then (fl_Rn fl_C 60 115 [some (.ref v0), some (.ref v1), none, some (.int v3), some (.int (fl_i h ((fl_r h v0 0).getD 0) 2))] [] h) else (if (decide (v3 = 2)) = true then (fl_Rn fl_C 60 115 [some (.ref v0), some (.ref v1), none, some (.int v3), some (.int (fl_i h ((fl_r h v0 0).getD 0) 2))] [] h) else (if (decide (¬ v3 = 8)) = true then (if (decide (fl_k h v0 = (1, 6)) && true) = true then (fl_ca fl_C 60 128 [some (.ref v0), some (.ref v1), none, some (.int v3), some (.int (fl_i h ((fl_r h v0 0).getD 0) 2)), some (.int 0)] [] [] (fl_cl fl_C 58 [.ref v0, .ref v1, .int v3] h)) else none) else (fl_Rn fl_C 60 115 [some (.ref v0), some (.ref v1), none, some (.int v3), some (.int (fl_i h ((fl_r h v0 0).getD 0) 2))] [] h)))) else none) else none := (fl_run_eq fl_C 400 60 90 _ _ _).trans rfl
set_option maxRecDepth 100000 in
theorem fbC_60_115 (h : fl_H) (v0 : Nat) (v1 : Nat) (v3 : Int32) (v4 : Int32) : fl_Rn fl_C 60 115 [some (.ref v0), some (.ref v1), none, some (.int v3), some (.int v4)] [] h = if (decide (fl_k h v0 = (1, 6)) && true) = true then (fl_ca fl_C 60 128 [some (.ref v0), some (.ref v1), none, some (.int v3), some (.int v4), some (.int 1)] [] [] (fl_cl fl_C 58 [.ref v0, .ref v1, .int v3] h)) else none := (fl_run_eq fl_C 400 60 115 _ _ _).trans rfl
set_option maxRecDepth 100000 in
theorem fbC_60_146 (h : fl_H) (v0 : Nat) (v1 : Nat) (v3 : Int32) (v4 : Int32) (v5 : Int32) : fl_Rn fl_C 60 146 [some (.ref v0), some (.ref v1), none, some (.int v3), some (.int v4), some (.int v5)] [] h = if (decide (fl_k h v0 = (1, 6))) = true then (if (decide (¬ (fl_i h v0 4) = 0)) = true then (fl_Rn fl_C 60 173 [some (.ref v0), some (.ref v1), none, some (.int v3), some (.int v4)] [] h) else (if (decide (¬ v5 = 0)) = true then (fl_Rn fl_C 60 173 [some (.ref v0), some (.ref v1), none, some (.int v3), some (.int v4)] [] h) else (if (decide (fl_k h v0 = (1, 6)) && true) = true then (fl_ca fl_C 60 163 [some (.ref v0), some (.ref v1), none, some (.int v3), some (.int v4)] [] [] (fl_cl fl_C 56 [.ref v0, .ref v1] h)) else none))) else none := (fl_run_eq fl_C 400 60 146 _ _ _).trans rfl
set_option maxRecDepth 100000 in
theorem fbC_60_173 (h : fl_H) (v0 : Nat) (v1 : Nat) (v3 : Int32) (v4 : Int32) : fl_Rn fl_C 60 173 [some (.ref v0), some (.ref v1), none, some (.int v3), some (.int v4)] [] h = if (decide (fl_k h v0 = (1, 6))) = true then (if (decide (¬ (fl_i h v0 4) = 0)) = true then (fl_Rn fl_C 60 205 [] [] h) else (if (decide (fl_k h v0 = (1, 6)) && (fl_r h v0 0).isSome) = true then (if (decide (¬ v3 = 8)) = true then (if (decide (fl_k h ((fl_r h v0 0).getD 0) = (1, 4)) && true) = true then (fl_ca fl_C 60 205 [] [] [] (fl_cl fl_C 21 [.ref ((fl_r h v0 0).getD 0), .int v3, .int v4, .int (-1)] h)) else none) else (if (decide (fl_k h v0 = (1, 6)) && true) = true then (fl_ca fl_C 60 198 [] [.int v4, .int v3, .ref ((fl_r h v0 0).getD 0)] [] (fl_cl fl_C 59 [.ref v0, .ref v1] h)) else none)) else none)) else none := (fl_run_eq fl_C 400 60 173 _ _ _).trans rfl
set_option maxRecDepth 100000 in
theorem fbC_60_205 (h : fl_H) : fl_Rn fl_C 60 205 [] [] h = some (some none, h) := (fl_run_eq fl_C 400 60 205 _ _ _).trans rfl
set_option maxRecDepth 100000 in
theorem fbP_60_5 (h : fl_H) (v0 : Nat) (v1 : Nat) (x : Int32) : fl_ca fl_C 60 5 [some (.ref v0), some (.ref v1)] [] [] (some (some (some (.int x)), h)) = if (decide (¬ x = (-1))) = true then (if (decide ((fl_k h 1048576).1 = 7) && true) = true then (fl_ca fl_C 60 23 [some (.ref v0), some (.ref v1)] [.int 1] [] (fl_cl fl_C 55 [.ref 1048576, .int ((Int32.toUInt32 x % 65536).toInt32)] h)) else none) else (if (decide (¬ (0 : Int32) = 0)) = true then (if (decide (fl_k h v0 = (1, 6)) && (fl_r h v0 0).isSome) = true then (if (decide (fl_k h ((fl_r h v0 0).getD 0) = (1, 4))) = true then (if (decide (12 ≤ (fl_i h ((fl_r h v0 0).getD 0) 1))) = true then (fl_Rn fl_C 60 69 [some (.ref v0)] [] h) else (if (decide (¬ (0 : Int32) = 8)) = true then (fl_Rn fl_C 60 80 [some (.ref v0), some (.ref v1), none, some (.int 0)] [] h) else (if (decide (fl_k h v0 = (1, 6)) && (fl_r h v0 0).isSome) = true then (if (decide (fl_k h ((fl_r h v0 0).getD 0) = (1, 4))) = true then (if (decide ((fl_i h ((fl_r h v0 0).getD 0) 3) < 3)) = true then (fl_Rn fl_C 60 80 [some (.ref v0), some (.ref v1), none, some (.int 0)] [] h) else (fl_Rn fl_C 60 69 [some (.ref v0)] [] h)) else none) else none))) else none) else none) else (if (decide (fl_k h v0 = (1, 6))) = true then (if (decide (fl_k h v0 = (1, 6)) && true) = true then (fl_ca fl_C 60 39 [] [] [] (fl_cl fl_C 44 [.ref v0, .int 0, .int 3, .int (fl_i h v0 3)] h)) else none) else none)) := (fl_run_eq fl_C 400 60 5 _ _ _).trans rfl
set_option maxRecDepth 100000 in
theorem fbP_60_79 (h : fl_H) : fl_ca fl_C 60 79 [] [] [] (some (some none, h)) = some (some none, h) := (fl_run_eq fl_C 400 60 79 _ _ _).trans rfl
set_option maxRecDepth 100000 in
theorem fbP_60_128 (h : fl_H) (v0 : Nat) (v1 : Nat) (v3 : Int32) (v4 : Int32) (v5 : Int32) : fl_ca fl_C 60 128 [some (.ref v0), some (.ref v1), none, some (.int v3), some (.int v4), some (.int v5)] [] [] (some (some none, h)) = if (decide (fl_k h v0 = (1, 6))) = true then (if (decide (¬ (fl_i h v0 4) = 0)) = true then (fl_Rn fl_C 60 146 [some (.ref v0), some (.ref v1), none, some (.int v3), some (.int v4), some (.int v5)] [] h) else (if (decide (¬ v5 = 0)) = true then (fl_Rn fl_C 60 146 [some (.ref v0), some (.ref v1), none, some (.int v3), some (.int v4), some (.int v5)] [] h) else (if (decide (fl_k h v0 = (1, 6)) && true) = true then (fl_ca fl_C 60 146 [some (.ref v0), some (.ref v1), none, some (.int v3), some (.int v4), some (.int v5)] [] [] (fl_cl fl_C 58 [.ref v0, .ref v1, .int v3] h)) else none))) else none := (fl_run_eq fl_C 400 60 128 _ _ _).trans rfl
set_option maxRecDepth 100000 in
theorem fbP_60_163 (h : fl_H) (v0 : Nat) (v1 : Nat) (v3 : Int32) (v4 : Int32) (x : Int32) : fl_ca fl_C 60 163 [some (.ref v0), some (.ref v1), none, some (.int v3), some (.int v4)] [] [] (some (some (some (.int x)), h)) = if (decide (x = (-1))) = true then (fl_Rn fl_C 60 173 [some (.ref v0), some (.ref v1), none, some (.int v3), some (.int v4)] [] h) else (if (decide (fl_k h v0 = (1, 6)) && true) = true then (fl_ca fl_C 60 173 [some (.ref v0), some (.ref v1), none, some (.int v3), some (.int v4)] [] [] (fl_cl fl_C 58 [.ref v0, .ref v1, .int v3] h)) else none) := (fl_run_eq fl_C 400 60 163 _ _ _).trans rfl
set_option maxRecDepth 100000 in
theorem fbP_60_198 (h : fl_H) (s0 : Int32) (s1 : Int32) (s2 : Nat) (x : Int32) : fl_ca fl_C 60 198 [] [.int s0, .int s1, .ref s2] [] (some (some (some (.int x)), h)) = if (decide (fl_k h s2 = (1, 4)) && true) = true then (fl_ca fl_C 60 205 [] [] [] (fl_cl fl_C 21 [.ref s2, .int s1, .int s0, .int x] h)) else none := (fl_run_eq fl_C 400 60 198 _ _ _).trans rfl
set_option maxRecDepth 100000 in
theorem fbP_60_205 (h : fl_H) : fl_ca fl_C 60 205 [] [] [] (some (some none, h)) = fl_Rn fl_C 60 205 [] [] h := rfl
set_option maxRecDepth 100000 in
theorem fbP_60_23 (h : fl_H) (v0 : Nat) (v1 : Nat) (s0 : Int32) (x : Int32) : fl_ca fl_C 60 23 [some (.ref v0), some (.ref v1)] [.int s0] [] (some (some (some (.int x)), h)) = if (decide (¬ (s0 + x) = 0)) = true then (if (decide (fl_k h v0 = (1, 6)) && (fl_r h v0 0).isSome) = true then (if (decide (fl_k h ((fl_r h v0 0).getD 0) = (1, 4))) = true then (if (decide (12 ≤ (fl_i h ((fl_r h v0 0).getD 0) 1))) = true then (fl_Rn fl_C 60 69 [some (.ref v0)] [] h) else (if (decide (¬ (s0 + x) = 8)) = true then (fl_Rn fl_C 60 80 [some (.ref v0), some (.ref v1), none, some (.int (s0 + x))] [] h) else (if (decide (fl_k h v0 = (1, 6)) && (fl_r h v0 0).isSome) = true then (if (decide (fl_k h ((fl_r h v0 0).getD 0) = (1, 4))) = true then (if (decide ((fl_i h ((fl_r h v0 0).getD 0) 3) < 3)) = true then (fl_Rn fl_C 60 80 [some (.ref v0), some (.ref v1), none, some (.int (s0 + x))] [] h) else (fl_Rn fl_C 60 69 [some (.ref v0)] [] h)) else none) else none))) else none) else none) else (if (decide (fl_k h v0 = (1, 6))) = true then (if (decide (fl_k h v0 = (1, 6)) && true) = true then (fl_ca fl_C 60 39 [] [] [] (fl_cl fl_C 44 [.ref v0, .int 0, .int 3, .int (fl_i h v0 3)] h)) else none) else none) := (fl_run_eq fl_C 400 60 23 _ _ _).trans rfl
set_option maxRecDepth 100000 in
theorem fbP_60_39 (h : fl_H) : fl_ca fl_C 60 39 [] [] [] (some (some none, h)) = some (some none, h) := (fl_run_eq fl_C 400 60 39 _ _ _).trans rfl
set_option maxRecDepth 100000 in
theorem fbP_60_146 (h : fl_H) (v0 : Nat) (v1 : Nat) (v3 : Int32) (v4 : Int32) (v5 : Int32) : fl_ca fl_C 60 146 [some (.ref v0), some (.ref v1), none, some (.int v3), some (.int v4), some (.int v5)] [] [] (some (some none, h)) = fl_Rn fl_C 60 146 [some (.ref v0), some (.ref v1), none, some (.int v3), some (.int v4), some (.int v5)] [] h := rfl
set_option maxRecDepth 100000 in
theorem fbP_60_173 (h : fl_H) (v0 : Nat) (v1 : Nat) (v3 : Int32) (v4 : Int32) : fl_ca fl_C 60 173 [some (.ref v0), some (.ref v1), none, some (.int v3), some (.int v4)] [] [] (some (some none, h)) = fl_Rn fl_C 60 173 [some (.ref v0), some (.ref v1), none, some (.int v3), some (.int v4)] [] h := rfl
