theorem dX11_memberOf_0 : decode cX11_memberOf 0 = .ok (.iconst 0, 1) := by decide +kernel
theorem dX11_memberOf_1 : decode cX11_memberOf 1 = .ok (.istore_n 2, 1) := by decide +kernel
theorem dX11_memberOf_2 : decode cX11_memberOf 2 = .ok (.iconst 0, 1) := by decide +kernel
theorem dX11_memberOf_3 : decode cX11_memberOf 3 = .ok (.istore_n 3, 1) := by decide +kernel
theorem dX11_memberOf_4 : decode cX11_memberOf 4 = .ok (.iload_n 3, 1) := by decide +kernel
theorem dX11_memberOf_5 : decode cX11_memberOf 5 = .ok (.bipush 8, 2) := by decide +kernel
theorem dX11_memberOf_7 : decode cX11_memberOf 7 = .ok (.if_icmp .ge 30, 3) := by decide +kernel
theorem dX11_memberOf_10 : decode cX11_memberOf 10 = .ok (.iload_n 0, 1) := by decide +kernel
theorem dX11_memberOf_11 : decode cX11_memberOf 11 = .ok (.iload_n 3, 1) := by decide +kernel
theorem dX11_memberOf_12 : decode cX11_memberOf 12 = .ok (.invokestatic 365, 3) := by decide +kernel
theorem dX11_memberOf_15 : decode cX11_memberOf 15 = .ok (.ifCond .ne 6, 3) := by decide +kernel
theorem dX11_memberOf_18 : decode cX11_memberOf 18 = .ok (.goto 13, 3) := by decide +kernel
theorem dX11_memberOf_21 : decode cX11_memberOf 21 = .ok (.iload_n 2, 1) := by decide +kernel
theorem dX11_memberOf_22 : decode cX11_memberOf 22 = .ok (.iload_n 1, 1) := by decide +kernel
theorem dX11_memberOf_23 : decode cX11_memberOf 23 = .ok (.if_icmp .ne 5, 3) := by decide +kernel
theorem dX11_memberOf_26 : decode cX11_memberOf 26 = .ok (.iload_n 3, 1) := by decide +kernel
theorem dX11_memberOf_27 : decode cX11_memberOf 27 = .ok (.ireturn, 1) := by decide +kernel
theorem dX11_memberOf_28 : decode cX11_memberOf 28 = .ok (.iinc 2 1, 3) := by decide +kernel
theorem dX11_memberOf_31 : decode cX11_memberOf 31 = .ok (.iinc 3 1, 3) := by decide +kernel
theorem dX11_memberOf_34 : decode cX11_memberOf 34 = .ok (.goto (-30), 3) := by decide +kernel
theorem dX11_memberOf_37 : decode cX11_memberOf 37 = .ok (.iconst (-1), 1) := by decide +kernel
theorem dX11_memberOf_38 : decode cX11_memberOf 38 = .ok (.ireturn, 1) := by decide +kernel
abbrev M_X11_memberOf : MI := (RX11, cX11_memberOf, 4, (some .int), ({ frames := 1, cells := 0, slots := 0, locals := 21 } : Room), 0, 0, false)
def f_X11_memberOf_b31 (h : AH) (N : Nat) (K4 : Int32 → Int32 → Int32 → Int32 → Option Int32) (x0 : Int32) (x1 : Int32) (x2 : Int32) (x3 : Int32) : Option Int32 := K4 x0 x1 x2 (x3 + 1)
def f_X11_memberOf_b4_body (h : AH) (N : Nat) (K4 : Int32 → Int32 → Int32 → Int32 → Option Int32) (x0 : Int32) (x1 : Int32) (x2 : Int32) (x3 : Int32) : Option Int32 := (if 8 ≤ x3 then some (-1) else (f_X11_hasSite h x0 x3).bind fun v2 => (if v2 = 0 then f_X11_memberOf_b31 h N K4 x0 x1 x2 x3 else (if x2 = x1 then some x3 else f_X11_memberOf_b31 h N K4 x0 x1 (x2 + 1) x3)))
def f_X11_memberOf_b4 (h : AH) (N : Nat) : Nat → Int32 → Int32 → Int32 → Int32 → Option Int32
  | 0, _, _, _, _ => none
  | n + 1, x0, x1, x2, x3 => f_X11_memberOf_b4_body h N  (f_X11_memberOf_b4 h N  n) x0 x1 x2 x3
def f_X11_memberOf (h : AH) (N : Nat) (p0 : Int32) (p1 : Int32) : Option Int32 := f_X11_memberOf_b4 h N N p0 p1 0 0
theorem km_X11_memberOf : KM yX11_memberOf M_X11_memberOf 2 := ⟨in_tb 896 (by decide +kernel) rfl, in_tb 1 (by decide +kernel) rfl, by decide +kernel, rfl, rfl⟩
theorem hm_X11_memberOf : M_X11_memberOf.2.2.2.2.2.1 = 0 ∧ M_X11_memberOf.2.2.2.2.2.2.1 = 0 := ⟨rfl, rfl⟩
section
variable {l : Launch} {g : GG}
set_option maxRecDepth 100000 in
set_option maxHeartbeats 4000000 in
theorem t_X11_memberOf_b31 (h : AH) (N : Nat) (K4 : Int32 → Int32 → Int32 → Int32 → Option Int32) (hK4 : ∀ (z0 : Int32) (z1 : Int32) (z2 : Int32) (z3 : Int32), AO l g M_X11_memberOf false h 4 [(0, .int z0), (1, .int z1), (2, .int z2), (3, .int z3)] [] h 0 0 (rPi h) (K4 z0 z1 z2 z3)) (x0 : Int32) (x1 : Int32) (x2 : Int32) (x3 : Int32) : AO l g M_X11_memberOf false h 31 [(0, .int x0), (1, .int x1), (2, .int x2), (3, .int x3)] [] h 0 0 (rPi h) (f_X11_memberOf_b31 h N K4 x0 x1 x2 x3) := by
  unfold f_X11_memberOf_b31
  refine a_iinc (q := 3) (v := (x3 + 1)) (lc2 := [(3, .int (x3 + 1)), (0, .int x0), (1, .int x1), (2, .int x2)]) dX11_memberOf_31 rfl rfl (by decide) rfl ?_
  refine a_goto 4 dX11_memberOf_34 (by decide) ?_
  refine a_pick (lc2 := [(0, .int x0), (1, .int x1), (2, .int x2), (3, .int (x3 + 1))]) [1, 2, 3, 0] rfl ?_
  exact hK4 x0 x1 x2 (x3 + 1)
set_option maxRecDepth 100000 in
set_option maxHeartbeats 4000000 in
theorem t_X11_memberOf_b4_body (h : AH) (N : Nat) (K4 : Int32 → Int32 → Int32 → Int32 → Option Int32) (hK4 : ∀ (z0 : Int32) (z1 : Int32) (z2 : Int32) (z3 : Int32), AO l g M_X11_memberOf false h 4 [(0, .int z0), (1, .int z1), (2, .int z2), (3, .int z3)] [] h 0 0 (rPi h) (K4 z0 z1 z2 z3)) (x0 : Int32) (x1 : Int32) (x2 : Int32) (x3 : Int32) : AO l g M_X11_memberOf false h 4 [(0, .int x0), (1, .int x1), (2, .int x2), (3, .int x3)] [] h 0 0 (rPi h) (f_X11_memberOf_b4_body h N K4 x0 x1 x2 x3) := by
  unfold f_X11_memberOf_b4_body
  refine a_iload_n dX11_memberOf_4 rfl 3 rfl ?_
  refine a_bipush (v := 8) dX11_memberOf_5 (by decide) ?_
  refine a_icmp_ge 37 dX11_memberOf_7 (by decide) (fun c1 => ?_) (fun c1 => ?_)
  · refine a_iconst (v := (-1)) dX11_memberOf_37 (by decide) ?_
    exact a_iret dX11_memberOf_38 rfl rfl (by decide) (by decide)
  · refine a_iload_n dX11_memberOf_10 rfl 0 rfl ?_
    refine a_iload_n dX11_memberOf_11 rfl 3 rfl ?_
    refine a_cS_Pi (as := [.int x0, .int x3]) (st := []) dX11_memberOf_12 (c_X11_hasSite l g h x0 x3) rfl km_X11_hasSite (hm_X11_hasSite) w_methodLink_RainCover_365 w_static_RainCover_hasSite__II_Z ⟨⟨by decide, by decide⟩, ⟨by decide, by decide⟩⟩ (Nat.le_of_ble_eq_true rfl) (fun v2 => ?_)
    refine a_if_ne 21 dX11_memberOf_15 (by decide) (fun c3 => ?_) (fun c3 => ?_)
    · refine a_goto 31 dX11_memberOf_18 (by decide) ?_
      exact t_X11_memberOf_b31 h N K4 hK4 x0 x1 x2 x3
    · refine a_iload_n dX11_memberOf_21 rfl 2 rfl ?_
      refine a_iload_n dX11_memberOf_22 rfl 1 rfl ?_
      refine a_icmp_ne 28 dX11_memberOf_23 (by decide) (fun c4 => ?_) (fun c4 => ?_)
      · refine a_iload_n dX11_memberOf_26 rfl 3 rfl ?_
        exact a_iret dX11_memberOf_27 rfl rfl (by decide) (by decide)
      · refine a_iinc (q := 2) (v := (x2 + 1)) (lc2 := [(2, .int (x2 + 1)), (0, .int x0), (1, .int x1), (3, .int x3)]) dX11_memberOf_28 rfl rfl (by decide) rfl ?_
        refine a_pick (lc2 := [(0, .int x0), (1, .int x1), (2, .int (x2 + 1)), (3, .int x3)]) [1, 2, 0, 3] rfl ?_
        exact t_X11_memberOf_b31 h N K4 hK4 x0 x1 (x2 + 1) x3
set_option maxRecDepth 100000 in
set_option maxHeartbeats 4000000 in
theorem t_X11_memberOf_b4 (h : AH) (N : Nat) : ∀ (n : Nat) (x0 : Int32) (x1 : Int32) (x2 : Int32) (x3 : Int32) , AO l g M_X11_memberOf false h 4 [(0, .int x0), (1, .int x1), (2, .int x2), (3, .int x3)] [] h 0 0 (rPi h) (f_X11_memberOf_b4 h N  n x0 x1 x2 x3) := by
  intro n
  induction n with
  | zero => intro x0 x1 x2 x3; exact a_eq rfl a_none
  | succ n ih => intro x0 x1 x2 x3; exact a_eq rfl (t_X11_memberOf_b4_body h N  (f_X11_memberOf_b4 h N  n) ih x0 x1 x2 x3)
end
set_option maxRecDepth 100000 in
set_option maxHeartbeats 4000000 in
theorem c_X11_memberOf (l : Launch) (g : GG) (h : AH) (N : Nat) (p0 : Int32) (p1 : Int32) : CN l g yX11_memberOf M_X11_memberOf false [.int p0, .int p1] h ((rPi h)) (f_X11_memberOf h N p0 p1) := by
  refine CN.of (by decide) rfl (fun hh => by first | rfl | cases hh) (Nat.le_of_ble_eq_true rfl) ?_
  unfold f_X11_memberOf
  refine a_iconst (v := 0) dX11_memberOf_0 (by decide) ?_
  refine a_istore_n (lc2 := [(2, .int 0), (0, .int p0), (1, .int p1)]) dX11_memberOf_1 rfl (by decide) rfl ?_
  refine a_iconst (v := 0) dX11_memberOf_2 (by decide) ?_
  refine a_istore_n (lc2 := [(3, .int 0), (2, .int 0), (0, .int p0), (1, .int p1)]) dX11_memberOf_3 rfl (by decide) rfl ?_
  refine a_pick (lc2 := [(0, .int p0), (1, .int p1), (2, .int 0), (3, .int 0)]) [2, 3, 1, 0] rfl ?_
  exact t_X11_memberOf_b4 h N N p0 p1 0 0
theorem dX11_best_0 : decode cX11_best 0 = .ok (.iload_n 1, 1) := by decide +kernel
theorem dX11_best_1 : decode cX11_best 1 = .ok (.iconst 0, 1) := by decide +kernel
theorem dX11_best_2 : decode cX11_best 2 = .ok (.iconst 4, 1) := by decide +kernel
theorem dX11_best_3 : decode cX11_best 3 = .ok (.invokestatic 120, 3) := by decide +kernel
theorem dX11_best_6 : decode cX11_best 6 = .ok (.ifCond .eq 23, 3) := by decide +kernel
theorem dX11_best_9 : decode cX11_best 9 = .ok (.iload_n 1, 1) := by decide +kernel
theorem dX11_best_10 : decode cX11_best 10 = .ok (.aload_n 0, 1) := by decide +kernel
theorem dX11_best_11 : decode cX11_best 11 = .ok (.getfield 24, 3) := by decide +kernel
theorem dX11_best_14 : decode cX11_best 14 = .ok (.invokevirtual 104, 3) := by decide +kernel
theorem dX11_best_17 : decode cX11_best 17 = .ok (.if_icmp .gt 12, 3) := by decide +kernel
theorem dX11_best_20 : decode cX11_best 20 = .ok (.iload_n 2, 1) := by decide +kernel
theorem dX11_best_21 : decode cX11_best 21 = .ok (.iconst 0, 1) := by decide +kernel
theorem dX11_best_22 : decode cX11_best 22 = .ok (.iconst 4, 1) := by decide +kernel
theorem dX11_best_23 : decode cX11_best 23 = .ok (.invokestatic 120, 3) := by decide +kernel
theorem dX11_best_26 : decode cX11_best 26 = .ok (.ifCond .ne 6, 3) := by decide +kernel
theorem dX11_best_29 : decode cX11_best 29 = .ok (.bipush (-5), 2) := by decide +kernel
theorem dX11_best_31 : decode cX11_best 31 = .ok (.ireturn, 1) := by decide +kernel
theorem dX11_best_32 : decode cX11_best 32 = .ok (.aload_n 0, 1) := by decide +kernel
theorem dX11_best_33 : decode cX11_best 33 = .ok (.invokevirtual 351, 3) := by decide +kernel
theorem dX11_best_36 : decode cX11_best 36 = .ok (.iconst 1, 1) := by decide +kernel
theorem dX11_best_37 : decode cX11_best 37 = .ok (.bipush 8, 2) := by decide +kernel
theorem dX11_best_39 : decode cX11_best 39 = .ok (.aload_n 0, 1) := by decide +kernel
theorem dX11_best_40 : decode cX11_best 40 = .ok (.getfield 24, 3) := by decide +kernel
theorem dX11_best_43 : decode cX11_best 43 = .ok (.invokevirtual 104, 3) := by decide +kernel
theorem dX11_best_46 : decode cX11_best 46 = .ok (.isub, 1) := by decide +kernel
theorem dX11_best_47 : decode cX11_best 47 = .ok (.ishl, 1) := by decide +kernel
theorem dX11_best_48 : decode cX11_best 48 = .ok (.iconst 1, 1) := by decide +kernel
theorem dX11_best_49 : decode cX11_best 49 = .ok (.isub, 1) := by decide +kernel
theorem dX11_best_50 : decode cX11_best 50 = .ok (.istore_n 3, 1) := by decide +kernel
theorem dX11_best_51 : decode cX11_best 51 = .ok (.iconst 0, 1) := by decide +kernel
theorem dX11_best_52 : decode cX11_best 52 = .ok (.istore 4, 2) := by decide +kernel
theorem dX11_best_54 : decode cX11_best 54 = .ok (.iconst (-1), 1) := by decide +kernel
theorem dX11_best_55 : decode cX11_best 55 = .ok (.istore 5, 2) := by decide +kernel
theorem dX11_best_57 : decode cX11_best 57 = .ok (.sipush 255, 3) := by decide +kernel
theorem dX11_best_60 : decode cX11_best 60 = .ok (.istore 6, 2) := by decide +kernel
theorem dX11_best_62 : decode cX11_best 62 = .ok (.iload 6, 2) := by decide +kernel
theorem dX11_best_64 : decode cX11_best 64 = .ok (.ifCond .lt 57, 3) := by decide +kernel
theorem dX11_best_67 : decode cX11_best 67 = .ok (.iload 6, 2) := by decide +kernel
theorem dX11_best_69 : decode cX11_best 69 = .ok (.iload_n 3, 1) := by decide +kernel
theorem dX11_best_70 : decode cX11_best 70 = .ok (.iand, 1) := by decide +kernel
theorem dX11_best_71 : decode cX11_best 71 = .ok (.ifCond .ne 44, 3) := by decide +kernel
theorem dX11_best_74 : decode cX11_best 74 = .ok (.iload 6, 2) := by decide +kernel
theorem dX11_best_76 : decode cX11_best 76 = .ok (.invokestatic 354, 3) := by decide +kernel
theorem dX11_best_79 : decode cX11_best 79 = .ok (.iload_n 1, 1) := by decide +kernel
theorem dX11_best_80 : decode cX11_best 80 = .ok (.if_icmp .eq 6, 3) := by decide +kernel
theorem dX11_best_83 : decode cX11_best 83 = .ok (.goto 32, 3) := by decide +kernel
theorem dX11_best_86 : decode cX11_best 86 = .ok (.aload_n 0, 1) := by decide +kernel
theorem dX11_best_87 : decode cX11_best 87 = .ok (.iload 6, 2) := by decide +kernel
theorem dX11_best_89 : decode cX11_best 89 = .ok (.invokevirtual 359, 3) := by decide +kernel
theorem dX11_best_92 : decode cX11_best 92 = .ok (.istore 7, 2) := by decide +kernel
theorem dX11_best_94 : decode cX11_best 94 = .ok (.iload 5, 2) := by decide +kernel
theorem dX11_best_96 : decode cX11_best 96 = .ok (.iconst (-1), 1) := by decide +kernel
theorem dX11_best_97 : decode cX11_best 97 = .ok (.if_icmp .eq 10, 3) := by decide +kernel
theorem dX11_best_100 : decode cX11_best 100 = .ok (.iload 7, 2) := by decide +kernel
theorem dX11_best_102 : decode cX11_best 102 = .ok (.iload 5, 2) := by decide +kernel
theorem dX11_best_104 : decode cX11_best 104 = .ok (.if_icmp .ge 11, 3) := by decide +kernel
theorem dX11_best_107 : decode cX11_best 107 = .ok (.iload 7, 2) := by decide +kernel
theorem dX11_best_109 : decode cX11_best 109 = .ok (.istore 5, 2) := by decide +kernel
theorem dX11_best_111 : decode cX11_best 111 = .ok (.iload 6, 2) := by decide +kernel
theorem dX11_best_113 : decode cX11_best 113 = .ok (.istore 4, 2) := by decide +kernel
theorem dX11_best_115 : decode cX11_best 115 = .ok (.iinc 6 (-1), 3) := by decide +kernel
theorem dX11_best_118 : decode cX11_best 118 = .ok (.goto (-56), 3) := by decide +kernel
theorem dX11_best_121 : decode cX11_best 121 = .ok (.iload_n 2, 1) := by decide +kernel
theorem dX11_best_122 : decode cX11_best 122 = .ok (.ifCond .ne 8, 3) := by decide +kernel
theorem dX11_best_125 : decode cX11_best 125 = .ok (.iload 5, 2) := by decide +kernel
theorem dX11_best_127 : decode cX11_best 127 = .ok (.goto 11, 3) := by decide +kernel
theorem dX11_best_130 : decode cX11_best 130 = .ok (.iload 4, 2) := by decide +kernel
theorem dX11_best_132 : decode cX11_best 132 = .ok (.iload_n 2, 1) := by decide +kernel
theorem dX11_best_133 : decode cX11_best 133 = .ok (.iconst 1, 1) := by decide +kernel
theorem dX11_best_134 : decode cX11_best 134 = .ok (.isub, 1) := by decide +kernel
theorem dX11_best_135 : decode cX11_best 135 = .ok (.invokestatic 362, 3) := by decide +kernel
theorem dX11_best_138 : decode cX11_best 138 = .ok (.ireturn, 1) := by decide +kernel
abbrev M_X11_best : MI := (RX11, cX11_best, 8, (some .int), ({ frames := 6, cells := 0, slots := 0, locals := 136 } : Room), 0, 0, false)
def f_X11_best_b115 (N : Nat) (K62 : AH → Nat → Int32 → Int32 → Int32 → Int32 → Int32 → Int32 → Option (Int32 × AH)) (h : AH) (x0 : Nat) (x1 : Int32) (x2 : Int32) (x3 : Int32) (x4 : Int32) (x5 : Int32) (x6 : Int32) : Option (Int32 × AH) := K62 h x0 x1 x2 x3 x4 x5 (x6 + (-1))
def f_X11_best_b107 (N : Nat) (K62 : AH → Nat → Int32 → Int32 → Int32 → Int32 → Int32 → Int32 → Option (Int32 × AH)) (h : AH) (x0 : Nat) (x1 : Int32) (x2 : Int32) (x3 : Int32) (x6 : Int32) (x7 : Int32) : Option (Int32 × AH) := f_X11_best_b115 N K62 h x0 x1 x2 x3 x6 x7 x6
def f_X11_best_b62_body (N : Nat) (K62 : AH → Nat → Int32 → Int32 → Int32 → Int32 → Int32 → Int32 → Option (Int32 × AH)) (h : AH) (x0 : Nat) (x1 : Int32) (x2 : Int32) (x3 : Int32) (x4 : Int32) (x5 : Int32) (x6 : Int32) : Option (Int32 × AH) := (if x6 < 0 then (if x2 = 0 then some (x5, h) else (f_X11_memberOf h N x4 (x2 - 1)).bind fun v13 => some (v13, h)) else (if (x6 &&& x3) = 0 then (f_J6_bitCount_0f7a4 h x6).bind fun v15 => (if v15 = x1 then (f_X11_farFor h N x0 x6).bind fun v17 => (if x5 = (-1) then f_X11_best_b107 N K62 h x0 x1 x2 x3 x6 v17 else (if x5 ≤ v17 then f_X11_best_b115 N K62 h x0 x1 x2 x3 x4 x5 x6 else f_X11_best_b107 N K62 h x0 x1 x2 x3 x6 v17)) else f_X11_best_b115 N K62 h x0 x1 x2 x3 x4 x5 x6) else f_X11_best_b115 N K62 h x0 x1 x2 x3 x4 x5 x6))
def f_X11_best_b62 (N : Nat) : Nat → AH → Nat → Int32 → Int32 → Int32 → Int32 → Int32 → Int32 → Option (Int32 × AH)
  | 0, _, _, _, _, _, _, _, _ => none
  | n + 1, h, x0, x1, x2, x3, x4, x5, x6 => f_X11_best_b62_body N  (f_X11_best_b62 N  n) h x0 x1 x2 x3 x4 x5 x6
def f_X11_best (h0 : AH) (N : Nat) (p0 : Nat) (p1 : Int32) (p2 : Int32) : Option (Int32 × AH) := if kd h0 p0 = 12 + 1 then (f_X11_within h0 p1 0 4).bind fun v1 => (if v1 = 0 then some ((-5), h0) else (xgr h0 p0 12 3).bind fun v3 => (f_Jx4a65c_size_8abf5 h0 v3).bind fun v4 => (if v4 < p1 then some ((-5), h0) else (f_X11_within h0 p2 0 4).bind fun v6 => (if v6 = 0 then some ((-5), h0) else (f_X11_gatherGaugeDistances h0 N p0).bind fun q8 => (xgr q8 p0 12 3).bind fun v9 => (f_Jx4a65c_size_8abf5 q8 v9).bind fun v10 => f_X11_best_b62 N N q8 p0 p1 p2 ((1 <<< ((8 - v10) &&& 31)) - 1) 0 (-1) 255))) else none
theorem g_X11_best {h0 : AH} {N : Nat} {p0 : Nat} {p1 : Int32} {p2 : Int32} {x : (Int32 × AH)} (e : f_X11_best h0 N p0 p1 p2 = some x) : kd h0 p0 = 12 + 1 := by
  unfold f_X11_best at e
  by_cases hk : kd h0 p0 = 12 + 1
  · exact hk
  · rw [if_neg hk] at e
    cases e
theorem km_X11_best : KM yX11_best M_X11_best 2 := ⟨in_tb 876 (by decide +kernel) rfl, in_tb 1 (by decide +kernel) rfl, by decide +kernel, rfl, rfl⟩
theorem hm_X11_best : M_X11_best.2.2.2.2.2.1 = 0 ∧ M_X11_best.2.2.2.2.2.2.1 = 0 := ⟨rfl, rfl⟩
section
variable {l : Launch} {g : GG}
set_option maxRecDepth 100000 in
set_option maxHeartbeats 4000000 in
theorem t_X11_best_b115 (h0 : AH) (N : Nat) (K62 : AH → Nat → Int32 → Int32 → Int32 → Int32 → Int32 → Int32 → Option (Int32 × AH)) (hK62 : ∀ (z : AH) (z0 : Nat) (z1 : Int32) (z2 : Int32) (z3 : Int32) (z4 : Int32) (z5 : Int32) (z6 : Int32), AO l g M_X11_best false h0 62 [(0, .ref z0), (1, .int z1), (2, .int z2), (3, .int z3), (4, .int z4), (5, .int z5), (6, .int z6)] [] z 0 0 rSi (K62 z z0 z1 z2 z3 z4 z5 z6)) (h : AH) (x0 : Nat) (x1 : Int32) (x2 : Int32) (x3 : Int32) (x4 : Int32) (x5 : Int32) (x6 : Int32) : AO l g M_X11_best false h0 115 [(0, .ref x0), (1, .int x1), (2, .int x2), (3, .int x3), (4, .int x4), (5, .int x5), (6, .int x6)] [] h 0 0 rSi (f_X11_best_b115 N K62 h x0 x1 x2 x3 x4 x5 x6) := by
  unfold f_X11_best_b115
  refine a_iinc (q := 6) (v := (x6 + (-1))) (lc2 := [(6, .int (x6 + (-1))), (0, .ref x0), (1, .int x1), (2, .int x2), (3, .int x3), (4, .int x4), (5, .int x5)]) dX11_best_115 rfl rfl (by decide) rfl ?_
  refine a_goto 62 dX11_best_118 (by decide) ?_
  refine a_pick (lc2 := [(0, .ref x0), (1, .int x1), (2, .int x2), (3, .int x3), (4, .int x4), (5, .int x5), (6, .int (x6 + (-1)))]) [1, 2, 3, 4, 5, 6, 0] rfl ?_
  exact hK62 h x0 x1 x2 x3 x4 x5 (x6 + (-1))
set_option maxRecDepth 100000 in
set_option maxHeartbeats 4000000 in
theorem t_X11_best_b107 (h0 : AH) (N : Nat) (K62 : AH → Nat → Int32 → Int32 → Int32 → Int32 → Int32 → Int32 → Option (Int32 × AH)) (hK62 : ∀ (z : AH) (z0 : Nat) (z1 : Int32) (z2 : Int32) (z3 : Int32) (z4 : Int32) (z5 : Int32) (z6 : Int32), AO l g M_X11_best false h0 62 [(0, .ref z0), (1, .int z1), (2, .int z2), (3, .int z3), (4, .int z4), (5, .int z5), (6, .int z6)] [] z 0 0 rSi (K62 z z0 z1 z2 z3 z4 z5 z6)) (h : AH) (x0 : Nat) (x1 : Int32) (x2 : Int32) (x3 : Int32) (x6 : Int32) (x7 : Int32) : AO l g M_X11_best false h0 107 [(0, .ref x0), (1, .int x1), (2, .int x2), (3, .int x3), (6, .int x6), (7, .int x7)] [] h 0 0 rSi (f_X11_best_b107 N K62 h x0 x1 x2 x3 x6 x7) := by
  unfold f_X11_best_b107
  refine a_iload dX11_best_107 5 rfl ?_
  refine a_istore (lc2 := [(5, .int x7), (0, .ref x0), (1, .int x1), (2, .int x2), (3, .int x3), (6, .int x6), (7, .int x7)]) dX11_best_109 (by decide) rfl ?_
  refine a_iload dX11_best_111 5 rfl ?_
  refine a_istore (lc2 := [(4, .int x6), (5, .int x7), (0, .ref x0), (1, .int x1), (2, .int x2), (3, .int x3), (6, .int x6), (7, .int x7)]) dX11_best_113 (by decide) rfl ?_
  refine a_pick (lc2 := [(0, .ref x0), (1, .int x1), (2, .int x2), (3, .int x3), (4, .int x6), (5, .int x7), (6, .int x6)]) [2, 3, 4, 5, 0, 1, 6] rfl ?_
  exact t_X11_best_b115 h0 N K62 hK62 h x0 x1 x2 x3 x6 x7 x6
set_option maxRecDepth 100000 in
set_option maxHeartbeats 4000000 in
theorem t_X11_best_b62_body (h0 : AH) (N : Nat) (K62 : AH → Nat → Int32 → Int32 → Int32 → Int32 → Int32 → Int32 → Option (Int32 × AH)) (hK62 : ∀ (z : AH) (z0 : Nat) (z1 : Int32) (z2 : Int32) (z3 : Int32) (z4 : Int32) (z5 : Int32) (z6 : Int32), AO l g M_X11_best false h0 62 [(0, .ref z0), (1, .int z1), (2, .int z2), (3, .int z3), (4, .int z4), (5, .int z5), (6, .int z6)] [] z 0 0 rSi (K62 z z0 z1 z2 z3 z4 z5 z6)) (h : AH) (x0 : Nat) (x1 : Int32) (x2 : Int32) (x3 : Int32) (x4 : Int32) (x5 : Int32) (x6 : Int32) : AO l g M_X11_best false h0 62 [(0, .ref x0), (1, .int x1), (2, .int x2), (3, .int x3), (4, .int x4), (5, .int x5), (6, .int x6)] [] h 0 0 rSi (f_X11_best_b62_body N K62 h x0 x1 x2 x3 x4 x5 x6) := by
  unfold f_X11_best_b62_body
  refine a_iload dX11_best_62 6 rfl ?_
  refine a_if_lt 121 dX11_best_64 (by decide) (fun c11 => ?_) (fun c11 => ?_)
  · refine a_iload_n dX11_best_121 rfl 2 rfl ?_
    refine a_if_ne 130 dX11_best_122 (by decide) (fun c12 => ?_) (fun c12 => ?_)
    · refine a_iload dX11_best_125 5 rfl ?_
      refine a_goto 138 dX11_best_127 (by decide) ?_
      exact a_iret dX11_best_138 rfl rfl (by decide) (by decide)
    · refine a_iload dX11_best_130 4 rfl ?_
      refine a_iload_n dX11_best_132 rfl 2 rfl ?_
      refine a_iconst (v := 1) dX11_best_133 (by decide) ?_
      refine a_isub dX11_best_134 ?_
      refine a_cS_Pi (as := [.int x4, .int (x2 - 1)]) (st := []) dX11_best_135 (c_X11_memberOf l g h N x4 (x2 - 1)) rfl km_X11_memberOf (hm_X11_memberOf) w_methodLink_RainCover_362 w_static_RainCover_memberOf__II_I ⟨⟨by decide, by decide⟩, ⟨by decide, by decide⟩⟩ (Nat.le_of_ble_eq_true rfl) (fun v13 => ?_)
      exact a_iret dX11_best_138 rfl rfl (by decide) (by decide)
  · refine a_iload dX11_best_67 6 rfl ?_
    refine a_iload_n dX11_best_69 rfl 3 rfl ?_
    refine a_iand dX11_best_70 ?_
    refine a_if_ne 115 dX11_best_71 (by decide) (fun c14 => ?_) (fun c14 => ?_)
    · refine a_iload dX11_best_74 6 rfl ?_
      refine a_cS_Pi (as := [.int x6]) (st := []) dX11_best_76 (c_J6_bitCount_0f7a4 l g h x6) rfl km_J6_bitCount_0f7a4 (hm_J6_bitCount_0f7a4) w_methodLink_RainCover_354 w_static_java_lang_Integer_bitCount__I_I ⟨⟨by decide, by decide⟩, ⟨by decide, by decide⟩⟩ (Nat.le_of_ble_eq_true rfl) (fun v15 => ?_)
      refine a_iload_n dX11_best_79 rfl 1 rfl ?_
      refine a_icmp_eq 86 dX11_best_80 (by decide) (fun c16 => ?_) (fun c16 => ?_)
      · refine a_aload_n dX11_best_86 rfl 0 rfl ?_
        refine a_iload dX11_best_87 6 rfl ?_
        refine a_cV_Pi (r := x0) (ci := 12) (as := [.int x6]) (st := []) dX11_best_89 (c_X11_farFor l g h N x0 x6) rfl km_X11_farFor (hm_X11_farFor) rfl (by decide) rfl (fun _ ee => g_X11_farFor ee) w_methodLink_RainCover_359 w_instanceMethod_RainCover_farFor__I_I w_selects_RainCover_RainCover_farFor__I_I_RainCover_farFor__I_I ⟨⟨by decide, by decide⟩, ⟨by decide, by decide⟩⟩ (Nat.le_of_ble_eq_true rfl) (fun v17 => ?_)
        refine a_istore (lc2 := [(7, .int v17), (0, .ref x0), (1, .int x1), (2, .int x2), (3, .int x3), (4, .int x4), (5, .int x5), (6, .int x6)]) dX11_best_92 (by decide) rfl ?_
        refine a_iload dX11_best_94 6 rfl ?_
        refine a_iconst (v := (-1)) dX11_best_96 (by decide) ?_
        refine a_icmp_eq 107 dX11_best_97 (by decide) (fun c18 => ?_) (fun c18 => ?_)
        · refine a_pick (lc2 := [(0, .ref x0), (1, .int x1), (2, .int x2), (3, .int x3), (6, .int x6), (7, .int v17)]) [1, 2, 3, 4, 7, 0] rfl ?_
          exact t_X11_best_b107 h0 N K62 hK62 h x0 x1 x2 x3 x6 v17
        · refine a_iload dX11_best_100 0 rfl ?_
          refine a_iload dX11_best_102 6 rfl ?_
          refine a_icmp_ge 115 dX11_best_104 (by decide) (fun c19 => ?_) (fun c19 => ?_)
          · refine a_pick (lc2 := [(0, .ref x0), (1, .int x1), (2, .int x2), (3, .int x3), (4, .int x4), (5, .int x5), (6, .int x6)]) [1, 2, 3, 4, 5, 6, 7] rfl ?_
            exact t_X11_best_b115 h0 N K62 hK62 h x0 x1 x2 x3 x4 x5 x6
          · refine a_pick (lc2 := [(0, .ref x0), (1, .int x1), (2, .int x2), (3, .int x3), (6, .int x6), (7, .int v17)]) [1, 2, 3, 4, 7, 0] rfl ?_
            exact t_X11_best_b107 h0 N K62 hK62 h x0 x1 x2 x3 x6 v17
      · refine a_goto 115 dX11_best_83 (by decide) ?_
        exact t_X11_best_b115 h0 N K62 hK62 h x0 x1 x2 x3 x4 x5 x6
    · exact t_X11_best_b115 h0 N K62 hK62 h x0 x1 x2 x3 x4 x5 x6
set_option maxRecDepth 100000 in
set_option maxHeartbeats 4000000 in
theorem t_X11_best_b62 (h0 : AH) (N : Nat) : ∀ (n : Nat) (h : AH) (x0 : Nat) (x1 : Int32) (x2 : Int32) (x3 : Int32) (x4 : Int32) (x5 : Int32) (x6 : Int32) , AO l g M_X11_best false h0 62 [(0, .ref x0), (1, .int x1), (2, .int x2), (3, .int x3), (4, .int x4), (5, .int x5), (6, .int x6)] [] h 0 0 rSi (f_X11_best_b62 N  n h x0 x1 x2 x3 x4 x5 x6) := by
  intro n
  induction n with
  | zero => intro h x0 x1 x2 x3 x4 x5 x6; exact a_eq rfl a_none
  | succ n ih => intro h x0 x1 x2 x3 x4 x5 x6; exact a_eq rfl (t_X11_best_b62_body h0 N  (f_X11_best_b62 N  n) ih h x0 x1 x2 x3 x4 x5 x6)
end
set_option maxRecDepth 100000 in
set_option maxHeartbeats 4000000 in
theorem c_X11_best (l : Launch) (g : GG) (h0 : AH) (N : Nat) (p0 : Nat) (p1 : Int32) (p2 : Int32) : CN l g yX11_best M_X11_best false [.ref p0, .int p1, .int p2] h0 rSi (f_X11_best h0 N p0 p1 p2) := by
  refine CN.of (by decide) rfl (fun hh => by first | rfl | cases hh) (Nat.le_of_ble_eq_true rfl) ?_
  unfold f_X11_best
  refine a_gd (fun hkd => ?_)
  refine a_iload_n dX11_best_0 rfl 1 rfl ?_
  refine a_iconst (v := 0) dX11_best_1 (by decide) ?_
  refine a_iconst (v := 4) dX11_best_2 (by decide) ?_
  refine a_cS_Pi (as := [.int p1, .int 0, .int 4]) (st := []) dX11_best_3 (c_X11_within l g h0 p1 0 4) rfl km_X11_within (hm_X11_within) w_methodLink_RainCover_120 w_static_RainCover_within__III_Z ⟨⟨by decide, by decide⟩, ⟨by decide, by decide⟩⟩ (Nat.le_of_ble_eq_true rfl) (fun v1 => ?_)
  refine a_if_eq 29 dX11_best_6 (by decide) (fun c2 => ?_) (fun c2 => ?_)
  · refine a_bipush (v := (-5)) dX11_best_29 (by decide) ?_
    exact a_iret dX11_best_31 rfl rfl (by decide) (by decide)
  · refine a_iload_n dX11_best_9 rfl 1 rfl ?_
    refine a_aload_n dX11_best_10 rfl 0 rfl ?_
    refine a_getr kc12 3 dX11_best_11 (by decide) rfl w_fieldLink_RainCover_24 (fun v3 => ?_)
    refine a_cV_Pi (r := v3) (ci := 0) (as := []) (st := [.int p1]) dX11_best_14 (c_Jx4a65c_size_8abf5 l g h0 v3) rfl km_Jx4a65c_size_8abf5 (hm_Jx4a65c_size_8abf5) rfl (by decide) rfl (fun _ ee => g_Jx4a65c_size_8abf5 ee) w_methodLink_RainCover_104 w_instanceMethod_java_util_ArrayList_size___I w_selects_java_util_ArrayList_java_util_ArrayList_size___I_java_util_ArrayList_size___I ⟨⟨by decide, by decide⟩, ⟨by decide, by decide⟩⟩ (Nat.le_of_ble_eq_true rfl) (fun v4 => ?_)
    refine a_icmp_gt 29 dX11_best_17 (by decide) (fun c5 => ?_) (fun c5 => ?_)
    · refine a_bipush (v := (-5)) dX11_best_29 (by decide) ?_
      exact a_iret dX11_best_31 rfl rfl (by decide) (by decide)
    · refine a_iload_n dX11_best_20 rfl 2 rfl ?_
      refine a_iconst (v := 0) dX11_best_21 (by decide) ?_
      refine a_iconst (v := 4) dX11_best_22 (by decide) ?_
      refine a_cS_Pi (as := [.int p2, .int 0, .int 4]) (st := []) dX11_best_23 (c_X11_within l g h0 p2 0 4) rfl km_X11_within (hm_X11_within) w_methodLink_RainCover_120 w_static_RainCover_within__III_Z ⟨⟨by decide, by decide⟩, ⟨by decide, by decide⟩⟩ (Nat.le_of_ble_eq_true rfl) (fun v6 => ?_)
      refine a_if_ne 32 dX11_best_26 (by decide) (fun c7 => ?_) (fun c7 => ?_)
      · refine a_bipush (v := (-5)) dX11_best_29 (by decide) ?_
        exact a_iret dX11_best_31 rfl rfl (by decide) (by decide)
      · refine a_aload_n dX11_best_32 rfl 0 rfl ?_
        refine a_cV_Sv (r := p0) (ci := 12) (as := []) (st := []) dX11_best_33 (c_X11_gatherGaugeDistances l g h0 N p0) rfl km_X11_gatherGaugeDistances (hm_X11_gatherGaugeDistances) rfl (by decide) rfl (fun _ ee => g_X11_gatherGaugeDistances ee) w_methodLink_RainCover_351 w_instanceMethod_RainCover_gatherGaugeDistances___V w_selects_RainCover_RainCover_gatherGaugeDistances___V_RainCover_gatherGaugeDistances___V ⟨⟨by decide, by decide⟩, ⟨by decide, by decide⟩⟩ (Nat.le_of_ble_eq_true rfl) (fun q8 => ?_)
        refine a_iconst (v := 1) dX11_best_36 (by decide) ?_
        refine a_bipush (v := 8) dX11_best_37 (by decide) ?_
        refine a_aload_n dX11_best_39 rfl 0 rfl ?_
        refine a_getr kc12 3 dX11_best_40 (by decide) rfl w_fieldLink_RainCover_24 (fun v9 => ?_)
        refine a_cV_Pi (r := v9) (ci := 0) (as := []) (st := [.int 8, .int 1]) dX11_best_43 (c_Jx4a65c_size_8abf5 l g q8 v9) rfl km_Jx4a65c_size_8abf5 (hm_Jx4a65c_size_8abf5) rfl (by decide) rfl (fun _ ee => g_Jx4a65c_size_8abf5 ee) w_methodLink_RainCover_104 w_instanceMethod_java_util_ArrayList_size___I w_selects_java_util_ArrayList_java_util_ArrayList_size___I_java_util_ArrayList_size___I ⟨⟨by decide, by decide⟩, ⟨by decide, by decide⟩⟩ (Nat.le_of_ble_eq_true rfl) (fun v10 => ?_)
        refine a_isub dX11_best_46 ?_
        refine a_ishl dX11_best_47 ?_
        refine a_iconst (v := 1) dX11_best_48 (by decide) ?_
        refine a_isub dX11_best_49 ?_
        refine a_istore_n (lc2 := [(3, .int ((1 <<< ((8 - v10) &&& 31)) - 1)), (0, .ref p0), (1, .int p1), (2, .int p2)]) dX11_best_50 rfl (by decide) rfl ?_
        refine a_iconst (v := 0) dX11_best_51 (by decide) ?_
        refine a_istore (lc2 := [(4, .int 0), (3, .int ((1 <<< ((8 - v10) &&& 31)) - 1)), (0, .ref p0), (1, .int p1), (2, .int p2)]) dX11_best_52 (by decide) rfl ?_
        refine a_iconst (v := (-1)) dX11_best_54 (by decide) ?_
        refine a_istore (lc2 := [(5, .int (-1)), (4, .int 0), (3, .int ((1 <<< ((8 - v10) &&& 31)) - 1)), (0, .ref p0), (1, .int p1), (2, .int p2)]) dX11_best_55 (by decide) rfl ?_
        refine a_sipush (v := 255) dX11_best_57 (by decide) ?_
        refine a_istore (lc2 := [(6, .int 255), (5, .int (-1)), (4, .int 0), (3, .int ((1 <<< ((8 - v10) &&& 31)) - 1)), (0, .ref p0), (1, .int p1), (2, .int p2)]) dX11_best_60 (by decide) rfl ?_
        refine a_pick (lc2 := [(0, .ref p0), (1, .int p1), (2, .int p2), (3, .int ((1 <<< ((8 - v10) &&& 31)) - 1)), (4, .int 0), (5, .int (-1)), (6, .int 255)]) [4, 5, 6, 3, 2, 1, 0] rfl ?_
        exact t_X11_best_b62 h0 N N q8 p0 p1 p2 ((1 <<< ((8 - v10) &&& 31)) - 1) 0 (-1) 255
theorem dX11_isOffer_0 : decode cX11_isOffer 0 = .ok (.aload_n 0, 1) := by decide +kernel
theorem dX11_isOffer_1 : decode cX11_isOffer 1 = .ok (.iload_n 1, 1) := by decide +kernel
theorem dX11_isOffer_2 : decode cX11_isOffer 2 = .ok (.invokevirtual 219, 3) := by decide +kernel
theorem dX11_isOffer_5 : decode cX11_isOffer 5 = .ok (.ifCond .eq 34, 3) := by decide +kernel
theorem dX11_isOffer_8 : decode cX11_isOffer 8 = .ok (.aload_n 0, 1) := by decide +kernel
theorem dX11_isOffer_9 : decode cX11_isOffer 9 = .ok (.iload_n 2, 1) := by decide +kernel
theorem dX11_isOffer_10 : decode cX11_isOffer 10 = .ok (.invokevirtual 117, 3) := by decide +kernel
theorem dX11_isOffer_13 : decode cX11_isOffer 13 = .ok (.ifCond .eq 26, 3) := by decide +kernel
theorem dX11_isOffer_16 : decode cX11_isOffer 16 = .ok (.iload_n 3, 1) := by decide +kernel
theorem dX11_isOffer_17 : decode cX11_isOffer 17 = .ok (.iconst 0, 1) := by decide +kernel
theorem dX11_isOffer_18 : decode cX11_isOffer 18 = .ok (.iconst 5, 1) := by decide +kernel
theorem dX11_isOffer_19 : decode cX11_isOffer 19 = .ok (.invokestatic 120, 3) := by decide +kernel
theorem dX11_isOffer_22 : decode cX11_isOffer 22 = .ok (.ifCond .eq 17, 3) := by decide +kernel
theorem dX11_isOffer_25 : decode cX11_isOffer 25 = .ok (.iload 4, 2) := by decide +kernel
theorem dX11_isOffer_27 : decode cX11_isOffer 27 = .ok (.iconst 0, 1) := by decide +kernel
theorem dX11_isOffer_28 : decode cX11_isOffer 28 = .ok (.iconst 3, 1) := by decide +kernel
theorem dX11_isOffer_29 : decode cX11_isOffer 29 = .ok (.invokestatic 120, 3) := by decide +kernel
theorem dX11_isOffer_32 : decode cX11_isOffer 32 = .ok (.ifCond .eq 7, 3) := by decide +kernel
theorem dX11_isOffer_35 : decode cX11_isOffer 35 = .ok (.iconst 1, 1) := by decide +kernel
theorem dX11_isOffer_36 : decode cX11_isOffer 36 = .ok (.goto 4, 3) := by decide +kernel
theorem dX11_isOffer_39 : decode cX11_isOffer 39 = .ok (.iconst 0, 1) := by decide +kernel
theorem dX11_isOffer_40 : decode cX11_isOffer 40 = .ok (.ireturn, 1) := by decide +kernel
abbrev M_X11_isOffer : MI := (RX11, cX11_isOffer, 5, (some .boolean), ({ frames := 2, cells := 0, slots := 0, locals := 43 } : Room), 0, 0, false)
def f_X11_isOffer (h : AH) (p0 : Nat) (p1 : Int32) (p2 : Int32) (p3 : Int32) (p4 : Int32) : Option Int32 := if kd h p0 = 12 + 1 then (f_X11_isTerm h p0 p1).bind fun v1 => (if v1 = 0 then some 0 else (f_X11_isGauge h p0 p2).bind fun v3 => (if v3 = 0 then some 0 else (f_X11_within h p3 0 5).bind fun v5 => (if v5 = 0 then some 0 else (f_X11_within h p4 0 3).bind fun v7 => (if v7 = 0 then some 0 else some 1)))) else none
theorem g_X11_isOffer {h : AH} {p0 : Nat} {p1 : Int32} {p2 : Int32} {p3 : Int32} {p4 : Int32} {x : Int32} (e : f_X11_isOffer h p0 p1 p2 p3 p4 = some x) : kd h p0 = 12 + 1 := by
  unfold f_X11_isOffer at e
  by_cases hk : kd h p0 = 12 + 1
  · exact hk
  · rw [if_neg hk] at e
    cases e
theorem km_X11_isOffer : KM yX11_isOffer M_X11_isOffer 4 := ⟨in_tb 904 (by decide +kernel) rfl, in_tb 1 (by decide +kernel) rfl, by decide +kernel, rfl, rfl⟩
theorem hm_X11_isOffer : M_X11_isOffer.2.2.2.2.2.1 = 0 ∧ M_X11_isOffer.2.2.2.2.2.2.1 = 0 := ⟨rfl, rfl⟩
section
variable {l : Launch} {g : GG}
end
set_option maxRecDepth 100000 in
set_option maxHeartbeats 4000000 in
theorem c_X11_isOffer (l : Launch) (g : GG) (h : AH) (p0 : Nat) (p1 : Int32) (p2 : Int32) (p3 : Int32) (p4 : Int32) : CN l g yX11_isOffer M_X11_isOffer false [.ref p0, .int p1, .int p2, .int p3, .int p4] h ((rPi h)) (f_X11_isOffer h p0 p1 p2 p3 p4) := by
  refine CN.of (by decide) rfl (fun hh => by first | rfl | cases hh) (Nat.le_of_ble_eq_true rfl) ?_
  unfold f_X11_isOffer
  refine a_gd (fun hkd => ?_)
  refine a_aload_n dX11_isOffer_0 rfl 0 rfl ?_
  refine a_iload_n dX11_isOffer_1 rfl 1 rfl ?_
  refine a_cV_Pi (r := p0) (ci := 12) (as := [.int p1]) (st := []) dX11_isOffer_2 (c_X11_isTerm l g h p0 p1) rfl km_X11_isTerm (hm_X11_isTerm) rfl (by decide) rfl (fun _ ee => g_X11_isTerm ee) w_methodLink_RainCover_219 w_instanceMethod_RainCover_isTerm__I_Z w_selects_RainCover_RainCover_isTerm__I_Z_RainCover_isTerm__I_Z ⟨⟨by decide, by decide⟩, ⟨by decide, by decide⟩⟩ (Nat.le_of_ble_eq_true rfl) (fun v1 => ?_)
  refine a_if_eq 39 dX11_isOffer_5 (by decide) (fun c2 => ?_) (fun c2 => ?_)
  · refine a_iconst (v := 0) dX11_isOffer_39 (by decide) ?_
    exact a_zret dX11_isOffer_40 rfl (Or.inl rfl) rfl (by decide) (by decide)
  · refine a_aload_n dX11_isOffer_8 rfl 0 rfl ?_
    refine a_iload_n dX11_isOffer_9 rfl 2 rfl ?_
    refine a_cV_Pi (r := p0) (ci := 12) (as := [.int p2]) (st := []) dX11_isOffer_10 (c_X11_isGauge l g h p0 p2) rfl km_X11_isGauge (hm_X11_isGauge) rfl (by decide) rfl (fun _ ee => g_X11_isGauge ee) w_methodLink_RainCover_117 w_instanceMethod_RainCover_isGauge__I_Z w_selects_RainCover_RainCover_isGauge__I_Z_RainCover_isGauge__I_Z ⟨⟨by decide, by decide⟩, ⟨by decide, by decide⟩⟩ (Nat.le_of_ble_eq_true rfl) (fun v3 => ?_)
    refine a_if_eq 39 dX11_isOffer_13 (by decide) (fun c4 => ?_) (fun c4 => ?_)
    · refine a_iconst (v := 0) dX11_isOffer_39 (by decide) ?_
      exact a_zret dX11_isOffer_40 rfl (Or.inl rfl) rfl (by decide) (by decide)
    · refine a_iload_n dX11_isOffer_16 rfl 3 rfl ?_
      refine a_iconst (v := 0) dX11_isOffer_17 (by decide) ?_
      refine a_iconst (v := 5) dX11_isOffer_18 (by decide) ?_
      refine a_cS_Pi (as := [.int p3, .int 0, .int 5]) (st := []) dX11_isOffer_19 (c_X11_within l g h p3 0 5) rfl km_X11_within (hm_X11_within) w_methodLink_RainCover_120 w_static_RainCover_within__III_Z ⟨⟨by decide, by decide⟩, ⟨by decide, by decide⟩⟩ (Nat.le_of_ble_eq_true rfl) (fun v5 => ?_)
      refine a_if_eq 39 dX11_isOffer_22 (by decide) (fun c6 => ?_) (fun c6 => ?_)
      · refine a_iconst (v := 0) dX11_isOffer_39 (by decide) ?_
        exact a_zret dX11_isOffer_40 rfl (Or.inl rfl) rfl (by decide) (by decide)
      · refine a_iload dX11_isOffer_25 4 rfl ?_
        refine a_iconst (v := 0) dX11_isOffer_27 (by decide) ?_
        refine a_iconst (v := 3) dX11_isOffer_28 (by decide) ?_
        refine a_cS_Pi (as := [.int p4, .int 0, .int 3]) (st := []) dX11_isOffer_29 (c_X11_within l g h p4 0 3) rfl km_X11_within (hm_X11_within) w_methodLink_RainCover_120 w_static_RainCover_within__III_Z ⟨⟨by decide, by decide⟩, ⟨by decide, by decide⟩⟩ (Nat.le_of_ble_eq_true rfl) (fun v7 => ?_)
        refine a_if_eq 39 dX11_isOffer_32 (by decide) (fun c8 => ?_) (fun c8 => ?_)
        · refine a_iconst (v := 0) dX11_isOffer_39 (by decide) ?_
          exact a_zret dX11_isOffer_40 rfl (Or.inl rfl) rfl (by decide) (by decide)
        · refine a_iconst (v := 1) dX11_isOffer_35 (by decide) ?_
          refine a_goto 40 dX11_isOffer_36 (by decide) ?_
          exact a_zret dX11_isOffer_40 rfl (Or.inr rfl) rfl (by decide) (by decide)
theorem dX11_isKnown_0 : decode cX11_isKnown 0 = .ok (.iconst 0, 1) := by decide +kernel
theorem dX11_isKnown_1 : decode cX11_isKnown 1 = .ok (.istore_n 3, 1) := by decide +kernel
theorem dX11_isKnown_2 : decode cX11_isKnown 2 = .ok (.iconst 0, 1) := by decide +kernel
theorem dX11_isKnown_3 : decode cX11_isKnown 3 = .ok (.istore 4, 2) := by decide +kernel
theorem dX11_isKnown_5 : decode cX11_isKnown 5 = .ok (.iload 4, 2) := by decide +kernel
theorem dX11_isKnown_7 : decode cX11_isKnown 7 = .ok (.bipush 12, 2) := by decide +kernel
theorem dX11_isKnown_9 : decode cX11_isKnown 9 = .ok (.if_icmp .ge 31, 3) := by decide +kernel
theorem dX11_isKnown_12 : decode cX11_isKnown 12 = .ok (.aload_n 0, 1) := by decide +kernel
theorem dX11_isKnown_13 : decode cX11_isKnown 13 = .ok (.getfield 30, 3) := by decide +kernel
theorem dX11_isKnown_16 : decode cX11_isKnown 16 = .ok (.iload_n 1, 1) := by decide +kernel
theorem dX11_isKnown_17 : decode cX11_isKnown 17 = .ok (.iload_n 2, 1) := by decide +kernel
theorem dX11_isKnown_18 : decode cX11_isKnown 18 = .ok (.iload 4, 2) := by decide +kernel
theorem dX11_isKnown_20 : decode cX11_isKnown 20 = .ok (.aload_n 0, 1) := by decide +kernel
theorem dX11_isKnown_21 : decode cX11_isKnown 21 = .ok (.invokevirtual 179, 3) := by decide +kernel
theorem dX11_isKnown_24 : decode cX11_isKnown 24 = .ok (.invokevirtual 147, 3) := by decide +kernel
theorem dX11_isKnown_27 : decode cX11_isKnown 27 = .ok (.iconst (-1), 1) := by decide +kernel
theorem dX11_isKnown_28 : decode cX11_isKnown 28 = .ok (.if_icmp .eq 6, 3) := by decide +kernel
theorem dX11_isKnown_31 : decode cX11_isKnown 31 = .ok (.iinc 3 1, 3) := by decide +kernel
theorem dX11_isKnown_34 : decode cX11_isKnown 34 = .ok (.iinc 4 1, 3) := by decide +kernel
theorem dX11_isKnown_37 : decode cX11_isKnown 37 = .ok (.goto (-32), 3) := by decide +kernel
theorem dX11_isKnown_40 : decode cX11_isKnown 40 = .ok (.iload_n 3, 1) := by decide +kernel
theorem dX11_isKnown_41 : decode cX11_isKnown 41 = .ok (.bipush 6, 2) := by decide +kernel
theorem dX11_isKnown_43 : decode cX11_isKnown 43 = .ok (.if_icmp .lt 7, 3) := by decide +kernel
theorem dX11_isKnown_46 : decode cX11_isKnown 46 = .ok (.iconst 1, 1) := by decide +kernel
theorem dX11_isKnown_47 : decode cX11_isKnown 47 = .ok (.goto 4, 3) := by decide +kernel
theorem dX11_isKnown_50 : decode cX11_isKnown 50 = .ok (.iconst 0, 1) := by decide +kernel
theorem dX11_isKnown_51 : decode cX11_isKnown 51 = .ok (.ireturn, 1) := by decide +kernel
abbrev M_X11_isKnown : MI := (RX11, cX11_isKnown, 5, (some .boolean), ({ frames := 1, cells := 0, slots := 0, locals := 26 } : Room), 0, 0, false)
def f_X11_isKnown_b34 (h : AH) (N : Nat) (K5 : Nat → Int32 → Int32 → Int32 → Int32 → Option Int32) (x0 : Nat) (x1 : Int32) (x2 : Int32) (x3 : Int32) (x4 : Int32) : Option Int32 := K5 x0 x1 x2 x3 (x4 + 1)
def f_X11_isKnown_b5_body (h : AH) (N : Nat) (K5 : Nat → Int32 → Int32 → Int32 → Int32 → Option Int32) (x0 : Nat) (x1 : Int32) (x2 : Int32) (x3 : Int32) (x4 : Int32) : Option Int32 := (if 12 ≤ x4 then (if x3 < 6 then some 0 else some 1) else (xgr h x0 12 4).bind fun v3 => (f_X11_now h x0).bind fun v4 => (f_X9_asKnown h N v3 x1 x2 x4 v4).bind fun v5 => (if v5 = (-1) then f_X11_isKnown_b34 h N K5 x0 x1 x2 x3 x4 else f_X11_isKnown_b34 h N K5 x0 x1 x2 (x3 + 1) x4))
def f_X11_isKnown_b5 (h : AH) (N : Nat) : Nat → Nat → Int32 → Int32 → Int32 → Int32 → Option Int32
  | 0, _, _, _, _, _ => none
  | n + 1, x0, x1, x2, x3, x4 => f_X11_isKnown_b5_body h N  (f_X11_isKnown_b5 h N  n) x0 x1 x2 x3 x4
def f_X11_isKnown (h : AH) (N : Nat) (p0 : Nat) (p1 : Int32) (p2 : Int32) : Option Int32 := if kd h p0 = 12 + 1 then f_X11_isKnown_b5 h N N p0 p1 p2 0 0 else none
theorem g_X11_isKnown {h : AH} {N : Nat} {p0 : Nat} {p1 : Int32} {p2 : Int32} {x : Int32} (e : f_X11_isKnown h N p0 p1 p2 = some x) : kd h p0 = 12 + 1 := by
  unfold f_X11_isKnown at e
  by_cases hk : kd h p0 = 12 + 1
  · exact hk
  · rw [if_neg hk] at e
    cases e
theorem km_X11_isKnown : KM yX11_isKnown M_X11_isKnown 2 := ⟨in_tb 912 (by decide +kernel) rfl, in_tb 1 (by decide +kernel) rfl, by decide +kernel, rfl, rfl⟩
theorem hm_X11_isKnown : M_X11_isKnown.2.2.2.2.2.1 = 0 ∧ M_X11_isKnown.2.2.2.2.2.2.1 = 0 := ⟨rfl, rfl⟩
section
variable {l : Launch} {g : GG}
set_option maxRecDepth 100000 in
set_option maxHeartbeats 4000000 in
theorem t_X11_isKnown_b34 (h : AH) (N : Nat) (K5 : Nat → Int32 → Int32 → Int32 → Int32 → Option Int32) (hK5 : ∀ (z0 : Nat) (z1 : Int32) (z2 : Int32) (z3 : Int32) (z4 : Int32), AO l g M_X11_isKnown false h 5 [(0, .ref z0), (1, .int z1), (2, .int z2), (3, .int z3), (4, .int z4)] [] h 0 0 (rPi h) (K5 z0 z1 z2 z3 z4)) (x0 : Nat) (x1 : Int32) (x2 : Int32) (x3 : Int32) (x4 : Int32) : AO l g M_X11_isKnown false h 34 [(0, .ref x0), (1, .int x1), (2, .int x2), (3, .int x3), (4, .int x4)] [] h 0 0 (rPi h) (f_X11_isKnown_b34 h N K5 x0 x1 x2 x3 x4) := by
  unfold f_X11_isKnown_b34
  refine a_iinc (q := 4) (v := (x4 + 1)) (lc2 := [(4, .int (x4 + 1)), (0, .ref x0), (1, .int x1), (2, .int x2), (3, .int x3)]) dX11_isKnown_34 rfl rfl (by decide) rfl ?_
  refine a_goto 5 dX11_isKnown_37 (by decide) ?_
  refine a_pick (lc2 := [(0, .ref x0), (1, .int x1), (2, .int x2), (3, .int x3), (4, .int (x4 + 1))]) [1, 2, 3, 4, 0] rfl ?_
  exact hK5 x0 x1 x2 x3 (x4 + 1)
set_option maxRecDepth 100000 in
set_option maxHeartbeats 4000000 in
theorem t_X11_isKnown_b5_body (h : AH) (N : Nat) (K5 : Nat → Int32 → Int32 → Int32 → Int32 → Option Int32) (hK5 : ∀ (z0 : Nat) (z1 : Int32) (z2 : Int32) (z3 : Int32) (z4 : Int32), AO l g M_X11_isKnown false h 5 [(0, .ref z0), (1, .int z1), (2, .int z2), (3, .int z3), (4, .int z4)] [] h 0 0 (rPi h) (K5 z0 z1 z2 z3 z4)) (x0 : Nat) (x1 : Int32) (x2 : Int32) (x3 : Int32) (x4 : Int32) : AO l g M_X11_isKnown false h 5 [(0, .ref x0), (1, .int x1), (2, .int x2), (3, .int x3), (4, .int x4)] [] h 0 0 (rPi h) (f_X11_isKnown_b5_body h N K5 x0 x1 x2 x3 x4) := by
  unfold f_X11_isKnown_b5_body
  refine a_iload dX11_isKnown_5 4 rfl ?_
  refine a_bipush (v := 12) dX11_isKnown_7 (by decide) ?_
  refine a_icmp_ge 40 dX11_isKnown_9 (by decide) (fun c1 => ?_) (fun c1 => ?_)
  · refine a_iload_n dX11_isKnown_40 rfl 3 rfl ?_
    refine a_bipush (v := 6) dX11_isKnown_41 (by decide) ?_
    refine a_icmp_lt 50 dX11_isKnown_43 (by decide) (fun c2 => ?_) (fun c2 => ?_)
    · refine a_iconst (v := 0) dX11_isKnown_50 (by decide) ?_
      exact a_zret dX11_isKnown_51 rfl (Or.inl rfl) rfl (by decide) (by decide)
    · refine a_iconst (v := 1) dX11_isKnown_46 (by decide) ?_
      refine a_goto 51 dX11_isKnown_47 (by decide) ?_
      exact a_zret dX11_isKnown_51 rfl (Or.inr rfl) rfl (by decide) (by decide)
  · refine a_aload_n dX11_isKnown_12 rfl 0 rfl ?_
    refine a_getr kc12 4 dX11_isKnown_13 (by decide) rfl w_fieldLink_RainCover_30 (fun v3 => ?_)
    refine a_iload_n dX11_isKnown_16 rfl 1 rfl ?_
    refine a_iload_n dX11_isKnown_17 rfl 2 rfl ?_
    refine a_iload dX11_isKnown_18 4 rfl ?_
    refine a_aload_n dX11_isKnown_20 rfl 0 rfl ?_
    refine a_cV_Pi (r := x0) (ci := 12) (as := []) (st := [.int x4, .int x2, .int x1, .ref v3]) dX11_isKnown_21 (c_X11_now l g h x0) rfl km_X11_now (hm_X11_now) rfl (by decide) rfl (fun _ ee => g_X11_now ee) w_methodLink_RainCover_179 w_instanceMethod_RainCover_now___I w_selects_RainCover_RainCover_now___I_RainCover_now___I ⟨⟨by decide, by decide⟩, ⟨by decide, by decide⟩⟩ (Nat.le_of_ble_eq_true rfl) (fun v4 => ?_)
    refine a_cV_Pi (r := v3) (ci := 10) (as := [.int x1, .int x2, .int x4, .int v4]) (st := []) dX11_isKnown_24 (c_X9_asKnown l g h N v3 x1 x2 x4 v4) rfl km_X9_asKnown (hm_X9_asKnown) rfl (by decide) rfl (fun _ ee => g_X9_asKnown ee) w_methodLink_RainCover_147 w_instanceMethod_RainCover_Tellings_asKnown__IIII_I w_selects_RainCover_Tellings_RainCover_Tellings_asKnown__IIII_I_RainCover_Tellings_asKnown__IIII_I ⟨⟨by decide, by decide⟩, ⟨by decide, by decide⟩⟩ (Nat.le_of_ble_eq_true rfl) (fun v5 => ?_)
    refine a_iconst (v := (-1)) dX11_isKnown_27 (by decide) ?_
    refine a_icmp_eq 34 dX11_isKnown_28 (by decide) (fun c6 => ?_) (fun c6 => ?_)
    · exact t_X11_isKnown_b34 h N K5 hK5 x0 x1 x2 x3 x4
    · refine a_iinc (q := 3) (v := (x3 + 1)) (lc2 := [(3, .int (x3 + 1)), (0, .ref x0), (1, .int x1), (2, .int x2), (4, .int x4)]) dX11_isKnown_31 rfl rfl (by decide) rfl ?_
      refine a_pick (lc2 := [(0, .ref x0), (1, .int x1), (2, .int x2), (3, .int (x3 + 1)), (4, .int x4)]) [1, 2, 3, 0, 4] rfl ?_
      exact t_X11_isKnown_b34 h N K5 hK5 x0 x1 x2 (x3 + 1) x4
set_option maxRecDepth 100000 in
set_option maxHeartbeats 4000000 in
theorem t_X11_isKnown_b5 (h : AH) (N : Nat) : ∀ (n : Nat) (x0 : Nat) (x1 : Int32) (x2 : Int32) (x3 : Int32) (x4 : Int32) , AO l g M_X11_isKnown false h 5 [(0, .ref x0), (1, .int x1), (2, .int x2), (3, .int x3), (4, .int x4)] [] h 0 0 (rPi h) (f_X11_isKnown_b5 h N  n x0 x1 x2 x3 x4) := by
  intro n
  induction n with
  | zero => intro x0 x1 x2 x3 x4; exact a_eq rfl a_none
  | succ n ih => intro x0 x1 x2 x3 x4; exact a_eq rfl (t_X11_isKnown_b5_body h N  (f_X11_isKnown_b5 h N  n) ih x0 x1 x2 x3 x4)
end
set_option maxRecDepth 100000 in
set_option maxHeartbeats 4000000 in
theorem c_X11_isKnown (l : Launch) (g : GG) (h : AH) (N : Nat) (p0 : Nat) (p1 : Int32) (p2 : Int32) : CN l g yX11_isKnown M_X11_isKnown false [.ref p0, .int p1, .int p2] h ((rPi h)) (f_X11_isKnown h N p0 p1 p2) := by
  refine CN.of (by decide) rfl (fun hh => by first | rfl | cases hh) (Nat.le_of_ble_eq_true rfl) ?_
  unfold f_X11_isKnown
  refine a_gd (fun hkd => ?_)
  refine a_iconst (v := 0) dX11_isKnown_0 (by decide) ?_
  refine a_istore_n (lc2 := [(3, .int 0), (0, .ref p0), (1, .int p1), (2, .int p2)]) dX11_isKnown_1 rfl (by decide) rfl ?_
  refine a_iconst (v := 0) dX11_isKnown_2 (by decide) ?_
  refine a_istore (lc2 := [(4, .int 0), (3, .int 0), (0, .ref p0), (1, .int p1), (2, .int p2)]) dX11_isKnown_3 (by decide) rfl ?_
  refine a_pick (lc2 := [(0, .ref p0), (1, .int p1), (2, .int p2), (3, .int 0), (4, .int 0)]) [2, 3, 4, 1, 0] rfl ?_
  exact t_X11_isKnown_b5 h N N p0 p1 p2 0 0
theorem dX11_gatherPays_0 : decode cX11_gatherPays 0 = .ok (.iconst 0, 1) := by decide +kernel
theorem dX11_gatherPays_1 : decode cX11_gatherPays 1 = .ok (.istore 5, 2) := by decide +kernel
theorem dX11_gatherPays_3 : decode cX11_gatherPays 3 = .ok (.iconst 0, 1) := by decide +kernel
theorem dX11_gatherPays_4 : decode cX11_gatherPays 4 = .ok (.istore 6, 2) := by decide +kernel
theorem dX11_gatherPays_6 : decode cX11_gatherPays 6 = .ok (.iload 6, 2) := by decide +kernel
theorem dX11_gatherPays_8 : decode cX11_gatherPays 8 = .ok (.bipush 16, 2) := by decide +kernel
theorem dX11_gatherPays_10 : decode cX11_gatherPays 10 = .ok (.if_icmp .ge 55, 3) := by decide +kernel
theorem dX11_gatherPays_13 : decode cX11_gatherPays 13 = .ok (.aload_n 0, 1) := by decide +kernel
theorem dX11_gatherPays_14 : decode cX11_gatherPays 14 = .ok (.getfield 90, 3) := by decide +kernel
theorem dX11_gatherPays_17 : decode cX11_gatherPays 17 = .ok (.iload 6, 2) := by decide +kernel
theorem dX11_gatherPays_19 : decode cX11_gatherPays 19 = .ok (.iconst (-1), 1) := by decide +kernel
theorem dX11_gatherPays_20 : decode cX11_gatherPays 20 = .ok (.iastore, 1) := by decide +kernel
theorem dX11_gatherPays_21 : decode cX11_gatherPays 21 = .ok (.aload_n 0, 1) := by decide +kernel
theorem dX11_gatherPays_22 : decode cX11_gatherPays 22 = .ok (.iload_n 2, 1) := by decide +kernel
theorem dX11_gatherPays_23 : decode cX11_gatherPays 23 = .ok (.iload 6, 2) := by decide +kernel
theorem dX11_gatherPays_25 : decode cX11_gatherPays 25 = .ok (.invokevirtual 387, 3) := by decide +kernel
theorem dX11_gatherPays_28 : decode cX11_gatherPays 28 = .ok (.ifCond .ne 6, 3) := by decide +kernel
theorem dX11_gatherPays_31 : decode cX11_gatherPays 31 = .ok (.goto 28, 3) := by decide +kernel
theorem dX11_gatherPays_34 : decode cX11_gatherPays 34 = .ok (.aload_n 0, 1) := by decide +kernel
theorem dX11_gatherPays_35 : decode cX11_gatherPays 35 = .ok (.getfield 90, 3) := by decide +kernel
theorem dX11_gatherPays_38 : decode cX11_gatherPays 38 = .ok (.iload 6, 2) := by decide +kernel
theorem dX11_gatherPays_40 : decode cX11_gatherPays 40 = .ok (.aload_n 0, 1) := by decide +kernel
theorem dX11_gatherPays_41 : decode cX11_gatherPays 41 = .ok (.iload_n 1, 1) := by decide +kernel
theorem dX11_gatherPays_42 : decode cX11_gatherPays 42 = .ok (.iload_n 2, 1) := by decide +kernel
theorem dX11_gatherPays_43 : decode cX11_gatherPays 43 = .ok (.iload 6, 2) := by decide +kernel
theorem dX11_gatherPays_45 : decode cX11_gatherPays 45 = .ok (.iload_n 3, 1) := by decide +kernel
theorem dX11_gatherPays_46 : decode cX11_gatherPays 46 = .ok (.iload 4, 2) := by decide +kernel
theorem dX11_gatherPays_48 : decode cX11_gatherPays 48 = .ok (.aload_n 0, 1) := by decide +kernel
theorem dX11_gatherPays_49 : decode cX11_gatherPays 49 = .ok (.invokevirtual 179, 3) := by decide +kernel
theorem dX11_gatherPays_52 : decode cX11_gatherPays 52 = .ok (.invokevirtual 222, 3) := by decide +kernel
theorem dX11_gatherPays_55 : decode cX11_gatherPays 55 = .ok (.iastore, 1) := by decide +kernel
theorem dX11_gatherPays_56 : decode cX11_gatherPays 56 = .ok (.iinc 5 1, 3) := by decide +kernel
theorem dX11_gatherPays_59 : decode cX11_gatherPays 59 = .ok (.iinc 6 1, 3) := by decide +kernel
theorem dX11_gatherPays_62 : decode cX11_gatherPays 62 = .ok (.goto (-56), 3) := by decide +kernel
theorem dX11_gatherPays_65 : decode cX11_gatherPays 65 = .ok (.iload 5, 2) := by decide +kernel
theorem dX11_gatherPays_67 : decode cX11_gatherPays 67 = .ok (.ireturn, 1) := by decide +kernel
abbrev M_X11_gatherPays : MI := (RX11, cX11_gatherPays, 7, (some .int), ({ frames := 6, cells := 0, slots := 0, locals := 148 } : Room), 0, 0, false)
def f_X11_gatherPays_b59 (N : Nat) (K6 : AH → Nat → Int32 → Int32 → Int32 → Int32 → Int32 → Int32 → Option (Int32 × AH)) (h : AH) (x0 : Nat) (x1 : Int32) (x2 : Int32) (x3 : Int32) (x4 : Int32) (x5 : Int32) (x6 : Int32) : Option (Int32 × AH) := K6 h x0 x1 x2 x3 x4 x5 (x6 + 1)
def f_X11_gatherPays_b6_body (N : Nat) (K6 : AH → Nat → Int32 → Int32 → Int32 → Int32 → Int32 → Int32 → Option (Int32 × AH)) (h : AH) (x0 : Nat) (x1 : Int32) (x2 : Int32) (x3 : Int32) (x4 : Int32) (x5 : Int32) (x6 : Int32) : Option (Int32 × AH) := (if 16 ≤ x6 then some (x5, h) else (xgr h x0 12 18).bind fun v2 => (xis h v2 x6 (-1)).bind fun h3 => (f_X11_isKnown h3 N x0 x2 x6).bind fun v4 => (if v4 = 0 then f_X11_gatherPays_b59 N K6 h3 x0 x1 x2 x3 x4 x5 x6 else (xgr h3 x0 12 18).bind fun v6 => (f_X11_now h3 x0).bind fun v7 => (f_X11_payOn h3 N x0 x1 x2 x6 x3 x4 v7).bind fun q8 => (xis q8.2 v6 x6 q8.1).bind fun h9 => f_X11_gatherPays_b59 N K6 h9 x0 x1 x2 x3 x4 (x5 + 1) x6))
def f_X11_gatherPays_b6 (N : Nat) : Nat → AH → Nat → Int32 → Int32 → Int32 → Int32 → Int32 → Int32 → Option (Int32 × AH)
  | 0, _, _, _, _, _, _, _, _ => none
  | n + 1, h, x0, x1, x2, x3, x4, x5, x6 => f_X11_gatherPays_b6_body N  (f_X11_gatherPays_b6 N  n) h x0 x1 x2 x3 x4 x5 x6
def f_X11_gatherPays (h0 : AH) (N : Nat) (p0 : Nat) (p1 : Int32) (p2 : Int32) (p3 : Int32) (p4 : Int32) : Option (Int32 × AH) := if kd h0 p0 = 12 + 1 then f_X11_gatherPays_b6 N N h0 p0 p1 p2 p3 p4 0 0 else none
theorem g_X11_gatherPays {h0 : AH} {N : Nat} {p0 : Nat} {p1 : Int32} {p2 : Int32} {p3 : Int32} {p4 : Int32} {x : (Int32 × AH)} (e : f_X11_gatherPays h0 N p0 p1 p2 p3 p4 = some x) : kd h0 p0 = 12 + 1 := by
  unfold f_X11_gatherPays at e
  by_cases hk : kd h0 p0 = 12 + 1
  · exact hk
  · rw [if_neg hk] at e
    cases e
theorem km_X11_gatherPays : KM yX11_gatherPays M_X11_gatherPays 4 := ⟨in_tb 908 (by decide +kernel) rfl, in_tb 1 (by decide +kernel) rfl, by decide +kernel, rfl, rfl⟩
theorem hm_X11_gatherPays : M_X11_gatherPays.2.2.2.2.2.1 = 0 ∧ M_X11_gatherPays.2.2.2.2.2.2.1 = 0 := ⟨rfl, rfl⟩
section
variable {l : Launch} {g : GG}
set_option maxRecDepth 100000 in
set_option maxHeartbeats 4000000 in
theorem t_X11_gatherPays_b59 (h0 : AH) (N : Nat) (K6 : AH → Nat → Int32 → Int32 → Int32 → Int32 → Int32 → Int32 → Option (Int32 × AH)) (hK6 : ∀ (z : AH) (z0 : Nat) (z1 : Int32) (z2 : Int32) (z3 : Int32) (z4 : Int32) (z5 : Int32) (z6 : Int32), AO l g M_X11_gatherPays false h0 6 [(0, .ref z0), (1, .int z1), (2, .int z2), (3, .int z3), (4, .int z4), (5, .int z5), (6, .int z6)] [] z 0 0 rSi (K6 z z0 z1 z2 z3 z4 z5 z6)) (h : AH) (x0 : Nat) (x1 : Int32) (x2 : Int32) (x3 : Int32) (x4 : Int32) (x5 : Int32) (x6 : Int32) : AO l g M_X11_gatherPays false h0 59 [(0, .ref x0), (1, .int x1), (2, .int x2), (3, .int x3), (4, .int x4), (5, .int x5), (6, .int x6)] [] h 0 0 rSi (f_X11_gatherPays_b59 N K6 h x0 x1 x2 x3 x4 x5 x6) := by
  unfold f_X11_gatherPays_b59
  refine a_iinc (q := 6) (v := (x6 + 1)) (lc2 := [(6, .int (x6 + 1)), (0, .ref x0), (1, .int x1), (2, .int x2), (3, .int x3), (4, .int x4), (5, .int x5)]) dX11_gatherPays_59 rfl rfl (by decide) rfl ?_
  refine a_goto 6 dX11_gatherPays_62 (by decide) ?_
  refine a_pick (lc2 := [(0, .ref x0), (1, .int x1), (2, .int x2), (3, .int x3), (4, .int x4), (5, .int x5), (6, .int (x6 + 1))]) [1, 2, 3, 4, 5, 6, 0] rfl ?_
  exact hK6 h x0 x1 x2 x3 x4 x5 (x6 + 1)
set_option maxRecDepth 100000 in
set_option maxHeartbeats 4000000 in
theorem t_X11_gatherPays_b6_body (h0 : AH) (N : Nat) (K6 : AH → Nat → Int32 → Int32 → Int32 → Int32 → Int32 → Int32 → Option (Int32 × AH)) (hK6 : ∀ (z : AH) (z0 : Nat) (z1 : Int32) (z2 : Int32) (z3 : Int32) (z4 : Int32) (z5 : Int32) (z6 : Int32), AO l g M_X11_gatherPays false h0 6 [(0, .ref z0), (1, .int z1), (2, .int z2), (3, .int z3), (4, .int z4), (5, .int z5), (6, .int z6)] [] z 0 0 rSi (K6 z z0 z1 z2 z3 z4 z5 z6)) (h : AH) (x0 : Nat) (x1 : Int32) (x2 : Int32) (x3 : Int32) (x4 : Int32) (x5 : Int32) (x6 : Int32) : AO l g M_X11_gatherPays false h0 6 [(0, .ref x0), (1, .int x1), (2, .int x2), (3, .int x3), (4, .int x4), (5, .int x5), (6, .int x6)] [] h 0 0 rSi (f_X11_gatherPays_b6_body N K6 h x0 x1 x2 x3 x4 x5 x6) := by
  unfold f_X11_gatherPays_b6_body
  refine a_iload dX11_gatherPays_6 6 rfl ?_
  refine a_bipush (v := 16) dX11_gatherPays_8 (by decide) ?_
  refine a_icmp_ge 65 dX11_gatherPays_10 (by decide) (fun c1 => ?_) (fun c1 => ?_)
  · refine a_iload dX11_gatherPays_65 5 rfl ?_
    exact a_iret dX11_gatherPays_67 rfl rfl (by decide) (by decide)
  · refine a_aload_n dX11_gatherPays_13 rfl 0 rfl ?_
    refine a_getr kc12 18 dX11_gatherPays_14 (by decide) rfl w_fieldLink_RainCover_90 (fun v2 => ?_)
    refine a_iload dX11_gatherPays_17 6 rfl ?_
    refine a_iconst (v := (-1)) dX11_gatherPays_19 (by decide) ?_
    refine a_iast dX11_gatherPays_20 (fun h3 => ?_)
    refine a_aload_n dX11_gatherPays_21 rfl 0 rfl ?_
    refine a_iload_n dX11_gatherPays_22 rfl 2 rfl ?_
    refine a_iload dX11_gatherPays_23 6 rfl ?_
    refine a_cV_Pi (r := x0) (ci := 12) (as := [.int x2, .int x6]) (st := []) dX11_gatherPays_25 (c_X11_isKnown l g h3 N x0 x2 x6) rfl km_X11_isKnown (hm_X11_isKnown) rfl (by decide) rfl (fun _ ee => g_X11_isKnown ee) w_methodLink_RainCover_387 w_instanceMethod_RainCover_isKnown__II_Z w_selects_RainCover_RainCover_isKnown__II_Z_RainCover_isKnown__II_Z ⟨⟨by decide, by decide⟩, ⟨by decide, by decide⟩⟩ (Nat.le_of_ble_eq_true rfl) (fun v4 => ?_)
    refine a_if_ne 34 dX11_gatherPays_28 (by decide) (fun c5 => ?_) (fun c5 => ?_)
    · refine a_goto 59 dX11_gatherPays_31 (by decide) ?_
      exact t_X11_gatherPays_b59 h0 N K6 hK6 h3 x0 x1 x2 x3 x4 x5 x6
    · refine a_aload_n dX11_gatherPays_34 rfl 0 rfl ?_
      refine a_getr kc12 18 dX11_gatherPays_35 (by decide) rfl w_fieldLink_RainCover_90 (fun v6 => ?_)
      refine a_iload dX11_gatherPays_38 6 rfl ?_
      refine a_aload_n dX11_gatherPays_40 rfl 0 rfl ?_
      refine a_iload_n dX11_gatherPays_41 rfl 1 rfl ?_
      refine a_iload_n dX11_gatherPays_42 rfl 2 rfl ?_
      refine a_iload dX11_gatherPays_43 6 rfl ?_
      refine a_iload_n dX11_gatherPays_45 rfl 3 rfl ?_
      refine a_iload dX11_gatherPays_46 4 rfl ?_
      refine a_aload_n dX11_gatherPays_48 rfl 0 rfl ?_
      refine a_cV_Pi (r := x0) (ci := 12) (as := []) (st := [.int x4, .int x3, .int x6, .int x2, .int x1, .ref x0, .int x6, .ref v6]) dX11_gatherPays_49 (c_X11_now l g h3 x0) rfl km_X11_now (hm_X11_now) rfl (by decide) rfl (fun _ ee => g_X11_now ee) w_methodLink_RainCover_179 w_instanceMethod_RainCover_now___I w_selects_RainCover_RainCover_now___I_RainCover_now___I ⟨⟨by decide, by decide⟩, ⟨by decide, by decide⟩⟩ (Nat.le_of_ble_eq_true rfl) (fun v7 => ?_)
      refine a_cV_Si (r := x0) (ci := 12) (as := [.int x1, .int x2, .int x6, .int x3, .int x4, .int v7]) (st := [.int x6, .ref v6]) dX11_gatherPays_52 (c_X11_payOn l g h3 N x0 x1 x2 x6 x3 x4 v7) rfl km_X11_payOn (hm_X11_payOn) rfl (by decide) rfl (fun _ ee => g_X11_payOn ee) w_methodLink_RainCover_222 w_instanceMethod_RainCover_payOn__IIIIII_I w_selects_RainCover_RainCover_payOn__IIIIII_I_RainCover_payOn__IIIIII_I ⟨⟨by decide, by decide⟩, ⟨by decide, by decide⟩⟩ (Nat.le_of_ble_eq_true rfl) (fun q8 => ?_)
      refine a_iast dX11_gatherPays_55 (fun h9 => ?_)
      refine a_iinc (q := 5) (v := (x5 + 1)) (lc2 := [(5, .int (x5 + 1)), (0, .ref x0), (1, .int x1), (2, .int x2), (3, .int x3), (4, .int x4), (6, .int x6)]) dX11_gatherPays_56 rfl rfl (by decide) rfl ?_
      refine a_pick (lc2 := [(0, .ref x0), (1, .int x1), (2, .int x2), (3, .int x3), (4, .int x4), (5, .int (x5 + 1)), (6, .int x6)]) [1, 2, 3, 4, 5, 0, 6] rfl ?_
      exact t_X11_gatherPays_b59 h0 N K6 hK6 h9 x0 x1 x2 x3 x4 (x5 + 1) x6
set_option maxRecDepth 100000 in
set_option maxHeartbeats 4000000 in
theorem t_X11_gatherPays_b6 (h0 : AH) (N : Nat) : ∀ (n : Nat) (h : AH) (x0 : Nat) (x1 : Int32) (x2 : Int32) (x3 : Int32) (x4 : Int32) (x5 : Int32) (x6 : Int32) , AO l g M_X11_gatherPays false h0 6 [(0, .ref x0), (1, .int x1), (2, .int x2), (3, .int x3), (4, .int x4), (5, .int x5), (6, .int x6)] [] h 0 0 rSi (f_X11_gatherPays_b6 N  n h x0 x1 x2 x3 x4 x5 x6) := by
  intro n
  induction n with
  | zero => intro h x0 x1 x2 x3 x4 x5 x6; exact a_eq rfl a_none
  | succ n ih => intro h x0 x1 x2 x3 x4 x5 x6; exact a_eq rfl (t_X11_gatherPays_b6_body h0 N  (f_X11_gatherPays_b6 N  n) ih h x0 x1 x2 x3 x4 x5 x6)
end
set_option maxRecDepth 100000 in
set_option maxHeartbeats 4000000 in
theorem c_X11_gatherPays (l : Launch) (g : GG) (h0 : AH) (N : Nat) (p0 : Nat) (p1 : Int32) (p2 : Int32) (p3 : Int32) (p4 : Int32) : CN l g yX11_gatherPays M_X11_gatherPays false [.ref p0, .int p1, .int p2, .int p3, .int p4] h0 rSi (f_X11_gatherPays h0 N p0 p1 p2 p3 p4) := by
  refine CN.of (by decide) rfl (fun hh => by first | rfl | cases hh) (Nat.le_of_ble_eq_true rfl) ?_
  unfold f_X11_gatherPays
  refine a_gd (fun hkd => ?_)
  refine a_iconst (v := 0) dX11_gatherPays_0 (by decide) ?_
  refine a_istore (lc2 := [(5, .int 0), (0, .ref p0), (1, .int p1), (2, .int p2), (3, .int p3), (4, .int p4)]) dX11_gatherPays_1 (by decide) rfl ?_
  refine a_iconst (v := 0) dX11_gatherPays_3 (by decide) ?_
  refine a_istore (lc2 := [(6, .int 0), (5, .int 0), (0, .ref p0), (1, .int p1), (2, .int p2), (3, .int p3), (4, .int p4)]) dX11_gatherPays_4 (by decide) rfl ?_
  refine a_pick (lc2 := [(0, .ref p0), (1, .int p1), (2, .int p2), (3, .int p3), (4, .int p4), (5, .int 0), (6, .int 0)]) [2, 3, 4, 5, 6, 1, 0] rfl ?_
  exact t_X11_gatherPays_b6 h0 N N h0 p0 p1 p2 p3 p4 0 0
theorem dX11_sumOfPays_0 : decode cX11_sumOfPays 0 = .ok (.lconst 0, 1) := by decide +kernel
theorem dX11_sumOfPays_1 : decode cX11_sumOfPays 1 = .ok (.lstore_n 1, 1) := by decide +kernel
theorem dX11_sumOfPays_2 : decode cX11_sumOfPays 2 = .ok (.iconst 0, 1) := by decide +kernel
theorem dX11_sumOfPays_3 : decode cX11_sumOfPays 3 = .ok (.istore_n 3, 1) := by decide +kernel
theorem dX11_sumOfPays_4 : decode cX11_sumOfPays 4 = .ok (.iload_n 3, 1) := by decide +kernel
theorem dX11_sumOfPays_5 : decode cX11_sumOfPays 5 = .ok (.bipush 16, 2) := by decide +kernel
theorem dX11_sumOfPays_7 : decode cX11_sumOfPays 7 = .ok (.if_icmp .ge 29, 3) := by decide +kernel
theorem dX11_sumOfPays_10 : decode cX11_sumOfPays 10 = .ok (.aload_n 0, 1) := by decide +kernel
theorem dX11_sumOfPays_11 : decode cX11_sumOfPays 11 = .ok (.getfield 90, 3) := by decide +kernel
theorem dX11_sumOfPays_14 : decode cX11_sumOfPays 14 = .ok (.iload_n 3, 1) := by decide +kernel
theorem dX11_sumOfPays_15 : decode cX11_sumOfPays 15 = .ok (.iaload, 1) := by decide +kernel
theorem dX11_sumOfPays_16 : decode cX11_sumOfPays 16 = .ok (.iconst (-1), 1) := by decide +kernel
theorem dX11_sumOfPays_17 : decode cX11_sumOfPays 17 = .ok (.if_icmp .eq 13, 3) := by decide +kernel
theorem dX11_sumOfPays_20 : decode cX11_sumOfPays 20 = .ok (.lload_n 1, 1) := by decide +kernel
theorem dX11_sumOfPays_21 : decode cX11_sumOfPays 21 = .ok (.aload_n 0, 1) := by decide +kernel
theorem dX11_sumOfPays_22 : decode cX11_sumOfPays 22 = .ok (.getfield 90, 3) := by decide +kernel
theorem dX11_sumOfPays_25 : decode cX11_sumOfPays 25 = .ok (.iload_n 3, 1) := by decide +kernel
theorem dX11_sumOfPays_26 : decode cX11_sumOfPays 26 = .ok (.iaload, 1) := by decide +kernel
theorem dX11_sumOfPays_27 : decode cX11_sumOfPays 27 = .ok (.i2l, 1) := by decide +kernel
theorem dX11_sumOfPays_28 : decode cX11_sumOfPays 28 = .ok (.ladd, 1) := by decide +kernel
theorem dX11_sumOfPays_29 : decode cX11_sumOfPays 29 = .ok (.lstore_n 1, 1) := by decide +kernel
theorem dX11_sumOfPays_30 : decode cX11_sumOfPays 30 = .ok (.iinc 3 1, 3) := by decide +kernel
theorem dX11_sumOfPays_33 : decode cX11_sumOfPays 33 = .ok (.goto (-29), 3) := by decide +kernel
theorem dX11_sumOfPays_36 : decode cX11_sumOfPays 36 = .ok (.lload_n 1, 1) := by decide +kernel
theorem dX11_sumOfPays_37 : decode cX11_sumOfPays 37 = .ok (.lreturn, 1) := by decide +kernel
abbrev M_X11_sumOfPays : MI := (RX11, cX11_sumOfPays, 4, (some .long), ({ frames := 0, cells := 0, slots := 0, locals := 0 } : Room), 0, 0, false)
def f_X11_sumOfPays_b30 (h : AH) (N : Nat) (K4 : Nat → Int64 → Int32 → Option Int64) (x0 : Nat) (x1 : Int64) (x3 : Int32) : Option Int64 := K4 x0 x1 (x3 + 1)
def f_X11_sumOfPays_b4_body (h : AH) (N : Nat) (K4 : Nat → Int64 → Int32 → Option Int64) (x0 : Nat) (x1 : Int64) (x3 : Int32) : Option Int64 := (if 16 ≤ x3 then some x1 else (xgr h x0 12 18).bind fun v2 => (xia h v2 x3).bind fun v3 => (if v3 = (-1) then f_X11_sumOfPays_b30 h N K4 x0 x1 x3 else (xgr h x0 12 18).bind fun v5 => (xia h v5 x3).bind fun v6 => f_X11_sumOfPays_b30 h N K4 x0 (x1 + (v6 : Int32).toInt64) x3))
def f_X11_sumOfPays_b4 (h : AH) (N : Nat) : Nat → Nat → Int64 → Int32 → Option Int64
  | 0, _, _, _ => none
  | n + 1, x0, x1, x3 => f_X11_sumOfPays_b4_body h N  (f_X11_sumOfPays_b4 h N  n) x0 x1 x3
def f_X11_sumOfPays (h : AH) (N : Nat) (p0 : Nat) : Option Int64 := if kd h p0 = 12 + 1 then f_X11_sumOfPays_b4 h N N p0 0 0 else none
theorem g_X11_sumOfPays {h : AH} {N : Nat} {p0 : Nat} {x : Int64} (e : f_X11_sumOfPays h N p0 = some x) : kd h p0 = 12 + 1 := by
  unfold f_X11_sumOfPays at e
  by_cases hk : kd h p0 = 12 + 1
  · exact hk
  · rw [if_neg hk] at e
    cases e
theorem km_X11_sumOfPays : KM yX11_sumOfPays M_X11_sumOfPays 0 := ⟨in_tb 916 (by decide +kernel) rfl, in_tb 1 (by decide +kernel) rfl, by decide +kernel, rfl, rfl⟩
theorem hm_X11_sumOfPays : M_X11_sumOfPays.2.2.2.2.2.1 = 0 ∧ M_X11_sumOfPays.2.2.2.2.2.2.1 = 0 := ⟨rfl, rfl⟩
section
variable {l : Launch} {g : GG}
set_option maxRecDepth 100000 in
set_option maxHeartbeats 4000000 in
theorem t_X11_sumOfPays_b30 (h : AH) (N : Nat) (K4 : Nat → Int64 → Int32 → Option Int64) (hK4 : ∀ (z0 : Nat) (z1 : Int64) (z2 : Int32), AO l g M_X11_sumOfPays false h 4 [(0, .ref z0), (1, .long z1), (3, .int z2)] [] h 0 0 (rPl h) (K4 z0 z1 z2)) (x0 : Nat) (x1 : Int64) (x3 : Int32) : AO l g M_X11_sumOfPays false h 30 [(0, .ref x0), (1, .long x1), (3, .int x3)] [] h 0 0 (rPl h) (f_X11_sumOfPays_b30 h N K4 x0 x1 x3) := by
  unfold f_X11_sumOfPays_b30
  refine a_iinc (q := 2) (v := (x3 + 1)) (lc2 := [(3, .int (x3 + 1)), (0, .ref x0), (1, .long x1)]) dX11_sumOfPays_30 rfl rfl (by decide) rfl ?_
  refine a_goto 4 dX11_sumOfPays_33 (by decide) ?_
  refine a_pick (lc2 := [(0, .ref x0), (1, .long x1), (3, .int (x3 + 1))]) [1, 2, 0] rfl ?_
  exact hK4 x0 x1 (x3 + 1)
set_option maxRecDepth 100000 in
set_option maxHeartbeats 4000000 in
theorem t_X11_sumOfPays_b4_body (h : AH) (N : Nat) (K4 : Nat → Int64 → Int32 → Option Int64) (hK4 : ∀ (z0 : Nat) (z1 : Int64) (z2 : Int32), AO l g M_X11_sumOfPays false h 4 [(0, .ref z0), (1, .long z1), (3, .int z2)] [] h 0 0 (rPl h) (K4 z0 z1 z2)) (x0 : Nat) (x1 : Int64) (x3 : Int32) : AO l g M_X11_sumOfPays false h 4 [(0, .ref x0), (1, .long x1), (3, .int x3)] [] h 0 0 (rPl h) (f_X11_sumOfPays_b4_body h N K4 x0 x1 x3) := by
  unfold f_X11_sumOfPays_b4_body
  refine a_iload_n dX11_sumOfPays_4 rfl 2 rfl ?_
  refine a_bipush (v := 16) dX11_sumOfPays_5 (by decide) ?_
  refine a_icmp_ge 36 dX11_sumOfPays_7 (by decide) (fun c1 => ?_) (fun c1 => ?_)
  · refine a_lload_n dX11_sumOfPays_36 rfl 1 rfl ?_
    exact a_lret dX11_sumOfPays_37 rfl rfl (by decide) (by decide)
  · refine a_aload_n dX11_sumOfPays_10 rfl 0 rfl ?_
    refine a_getr kc12 18 dX11_sumOfPays_11 (by decide) rfl w_fieldLink_RainCover_90 (fun v2 => ?_)
    refine a_iload_n dX11_sumOfPays_14 rfl 2 rfl ?_
    refine a_iald dX11_sumOfPays_15 (fun v3 => ?_)
    refine a_iconst (v := (-1)) dX11_sumOfPays_16 (by decide) ?_
    refine a_icmp_eq 30 dX11_sumOfPays_17 (by decide) (fun c4 => ?_) (fun c4 => ?_)
    · exact t_X11_sumOfPays_b30 h N K4 hK4 x0 x1 x3
    · refine a_lload_n dX11_sumOfPays_20 rfl 1 rfl ?_
      refine a_aload_n dX11_sumOfPays_21 rfl 0 rfl ?_
      refine a_getr kc12 18 dX11_sumOfPays_22 (by decide) rfl w_fieldLink_RainCover_90 (fun v5 => ?_)
      refine a_iload_n dX11_sumOfPays_25 rfl 2 rfl ?_
      refine a_iald dX11_sumOfPays_26 (fun v6 => ?_)
      refine a_i2l dX11_sumOfPays_27 ?_
      refine a_ladd dX11_sumOfPays_28 ?_
      refine a_lstore_n (lc2 := [(1, .long (x1 + (v6 : Int32).toInt64)), (0, .ref x0), (3, .int x3)]) dX11_sumOfPays_29 rfl (by decide) rfl ?_
      refine a_pick (lc2 := [(0, .ref x0), (1, .long (x1 + (v6 : Int32).toInt64)), (3, .int x3)]) [1, 0, 2] rfl ?_
      exact t_X11_sumOfPays_b30 h N K4 hK4 x0 (x1 + (v6 : Int32).toInt64) x3
set_option maxRecDepth 100000 in
set_option maxHeartbeats 4000000 in
theorem t_X11_sumOfPays_b4 (h : AH) (N : Nat) : ∀ (n : Nat) (x0 : Nat) (x1 : Int64) (x3 : Int32) , AO l g M_X11_sumOfPays false h 4 [(0, .ref x0), (1, .long x1), (3, .int x3)] [] h 0 0 (rPl h) (f_X11_sumOfPays_b4 h N  n x0 x1 x3) := by
  intro n
  induction n with
  | zero => intro x0 x1 x3; exact a_eq rfl a_none
  | succ n ih => intro x0 x1 x3; exact a_eq rfl (t_X11_sumOfPays_b4_body h N  (f_X11_sumOfPays_b4 h N  n) ih x0 x1 x3)
end
set_option maxRecDepth 100000 in
set_option maxHeartbeats 4000000 in
theorem c_X11_sumOfPays (l : Launch) (g : GG) (h : AH) (N : Nat) (p0 : Nat) : CN l g yX11_sumOfPays M_X11_sumOfPays false [.ref p0] h ((rPl h)) (f_X11_sumOfPays h N p0) := by
  refine CN.of (by decide) rfl (fun hh => by first | rfl | cases hh) (Nat.le_of_ble_eq_true rfl) ?_
  unfold f_X11_sumOfPays
  refine a_gd (fun hkd => ?_)
  refine a_lconst (v := 0) dX11_sumOfPays_0 (by decide) ?_
  refine a_lstore_n (lc2 := [(1, .long 0), (0, .ref p0)]) dX11_sumOfPays_1 rfl (by decide) rfl ?_
  refine a_iconst (v := 0) dX11_sumOfPays_2 (by decide) ?_
  refine a_istore_n (lc2 := [(3, .int 0), (1, .long 0), (0, .ref p0)]) dX11_sumOfPays_3 rfl (by decide) rfl ?_
  refine a_pick (lc2 := [(0, .ref p0), (1, .long 0), (3, .int 0)]) [2, 1, 0] rfl ?_
  exact t_X11_sumOfPays_b4 h N N p0 0 0
theorem dX11_mean_0 : decode cX11_mean 0 = .ok (.aload_n 0, 1) := by decide +kernel
theorem dX11_mean_1 : decode cX11_mean 1 = .ok (.iload_n 1, 1) := by decide +kernel
theorem dX11_mean_2 : decode cX11_mean 2 = .ok (.iload_n 2, 1) := by decide +kernel
theorem dX11_mean_3 : decode cX11_mean 3 = .ok (.iload_n 3, 1) := by decide +kernel
theorem dX11_mean_4 : decode cX11_mean 4 = .ok (.iload 4, 2) := by decide +kernel
theorem dX11_mean_6 : decode cX11_mean 6 = .ok (.invokevirtual 368, 3) := by decide +kernel
theorem dX11_mean_9 : decode cX11_mean 9 = .ok (.ifCond .eq 13, 3) := by decide +kernel
theorem dX11_mean_12 : decode cX11_mean 12 = .ok (.iload 5, 2) := by decide +kernel
theorem dX11_mean_14 : decode cX11_mean 14 = .ok (.iconst 0, 1) := by decide +kernel
theorem dX11_mean_15 : decode cX11_mean 15 = .ok (.iconst 1, 1) := by decide +kernel
theorem dX11_mean_16 : decode cX11_mean 16 = .ok (.invokestatic 120, 3) := by decide +kernel
theorem dX11_mean_19 : decode cX11_mean 19 = .ok (.ifCond .ne 7, 3) := by decide +kernel
theorem dX11_mean_22 : decode cX11_mean 22 = .ok (.ldc2_w 327, 3) := by decide +kernel
theorem dX11_mean_25 : decode cX11_mean 25 = .ok (.lreturn, 1) := by decide +kernel
theorem dX11_mean_26 : decode cX11_mean 26 = .ok (.aload_n 0, 1) := by decide +kernel
theorem dX11_mean_27 : decode cX11_mean 27 = .ok (.iload_n 1, 1) := by decide +kernel
theorem dX11_mean_28 : decode cX11_mean 28 = .ok (.iload_n 2, 1) := by decide +kernel
theorem dX11_mean_29 : decode cX11_mean 29 = .ok (.iload_n 3, 1) := by decide +kernel
theorem dX11_mean_30 : decode cX11_mean 30 = .ok (.iload 4, 2) := by decide +kernel
theorem dX11_mean_32 : decode cX11_mean 32 = .ok (.invokevirtual 371, 3) := by decide +kernel
theorem dX11_mean_35 : decode cX11_mean 35 = .ok (.istore 6, 2) := by decide +kernel
theorem dX11_mean_37 : decode cX11_mean 37 = .ok (.iload 6, 2) := by decide +kernel
theorem dX11_mean_39 : decode cX11_mean 39 = .ok (.ifCond .ne 9, 3) := by decide +kernel
theorem dX11_mean_42 : decode cX11_mean 42 = .ok (.ldc2_w 327, 3) := by decide +kernel
theorem dX11_mean_45 : decode cX11_mean 45 = .ok (.goto 15, 3) := by decide +kernel
theorem dX11_mean_48 : decode cX11_mean 48 = .ok (.aload_n 0, 1) := by decide +kernel
theorem dX11_mean_49 : decode cX11_mean 49 = .ok (.invokevirtual 374, 3) := by decide +kernel
theorem dX11_mean_52 : decode cX11_mean 52 = .ok (.iload 6, 2) := by decide +kernel
theorem dX11_mean_54 : decode cX11_mean 54 = .ok (.i2l, 1) := by decide +kernel
theorem dX11_mean_55 : decode cX11_mean 55 = .ok (.iload 5, 2) := by decide +kernel
theorem dX11_mean_57 : decode cX11_mean 57 = .ok (.invokestatic 336, 3) := by decide +kernel
theorem dX11_mean_60 : decode cX11_mean 60 = .ok (.lreturn, 1) := by decide +kernel
abbrev M_X11_mean : MI := (RX11, cX11_mean, 7, (some .long), ({ frames := 7, cells := 0, slots := 0, locals := 174 } : Room), 0, 0, false)
def f_X11_mean (h0 : AH) (N : Nat) (p0 : Nat) (p1 : Int32) (p2 : Int32) (p3 : Int32) (p4 : Int32) (p5 : Int32) : Option (Int64 × AH) := if kd h0 p0 = 12 + 1 then (f_X11_isOffer h0 p0 p1 p2 p3 p4).bind fun v1 => (if v1 = 0 then some ((-9223372036854775808), h0) else (f_X11_within h0 p5 0 1).bind fun v3 => (if v3 = 0 then some ((-9223372036854775808), h0) else (f_X11_gatherPays h0 N p0 p1 p2 p3 p4).bind fun q5 => (if q5.1 = 0 then some ((-9223372036854775808), q5.2) else (f_X11_sumOfPays q5.2 N p0).bind fun v7 => (f_X11_partOf q5.2 N v7 (q5.1 : Int32).toInt64 p5).bind fun v8 => some (v8, q5.2)))) else none
theorem g_X11_mean {h0 : AH} {N : Nat} {p0 : Nat} {p1 : Int32} {p2 : Int32} {p3 : Int32} {p4 : Int32} {p5 : Int32} {x : (Int64 × AH)} (e : f_X11_mean h0 N p0 p1 p2 p3 p4 p5 = some x) : kd h0 p0 = 12 + 1 := by
  unfold f_X11_mean at e
  by_cases hk : kd h0 p0 = 12 + 1
  · exact hk
  · rw [if_neg hk] at e
    cases e
theorem km_X11_mean : KM yX11_mean M_X11_mean 5 := ⟨in_tb 900 (by decide +kernel) rfl, in_tb 1 (by decide +kernel) rfl, by decide +kernel, rfl, rfl⟩
theorem hm_X11_mean : M_X11_mean.2.2.2.2.2.1 = 0 ∧ M_X11_mean.2.2.2.2.2.2.1 = 0 := ⟨rfl, rfl⟩
section
variable {l : Launch} {g : GG}
end
set_option maxRecDepth 100000 in
set_option maxHeartbeats 4000000 in
theorem c_X11_mean (l : Launch) (g : GG) (h0 : AH) (N : Nat) (p0 : Nat) (p1 : Int32) (p2 : Int32) (p3 : Int32) (p4 : Int32) (p5 : Int32) : CN l g yX11_mean M_X11_mean false [.ref p0, .int p1, .int p2, .int p3, .int p4, .int p5] h0 rSl (f_X11_mean h0 N p0 p1 p2 p3 p4 p5) := by
  refine CN.of (by decide) rfl (fun hh => by first | rfl | cases hh) (Nat.le_of_ble_eq_true rfl) ?_
  unfold f_X11_mean
  refine a_gd (fun hkd => ?_)
  refine a_aload_n dX11_mean_0 rfl 0 rfl ?_
  refine a_iload_n dX11_mean_1 rfl 1 rfl ?_
  refine a_iload_n dX11_mean_2 rfl 2 rfl ?_
  refine a_iload_n dX11_mean_3 rfl 3 rfl ?_
  refine a_iload dX11_mean_4 4 rfl ?_
  refine a_cV_Pi (r := p0) (ci := 12) (as := [.int p1, .int p2, .int p3, .int p4]) (st := []) dX11_mean_6 (c_X11_isOffer l g h0 p0 p1 p2 p3 p4) rfl km_X11_isOffer (hm_X11_isOffer) rfl (by decide) rfl (fun _ ee => g_X11_isOffer ee) w_methodLink_RainCover_368 w_instanceMethod_RainCover_isOffer__IIII_Z w_selects_RainCover_RainCover_isOffer__IIII_Z_RainCover_isOffer__IIII_Z ⟨⟨by decide, by decide⟩, ⟨by decide, by decide⟩⟩ (Nat.le_of_ble_eq_true rfl) (fun v1 => ?_)
  refine a_if_eq 22 dX11_mean_9 (by decide) (fun c2 => ?_) (fun c2 => ?_)
  · refine a_ldc2 (v := (-9223372036854775808)) dX11_mean_22 w_constantLong_RainCover_327 ?_
    exact a_lret dX11_mean_25 rfl rfl (by decide) (by decide)
  · refine a_iload dX11_mean_12 5 rfl ?_
    refine a_iconst (v := 0) dX11_mean_14 (by decide) ?_
    refine a_iconst (v := 1) dX11_mean_15 (by decide) ?_
    refine a_cS_Pi (as := [.int p5, .int 0, .int 1]) (st := []) dX11_mean_16 (c_X11_within l g h0 p5 0 1) rfl km_X11_within (hm_X11_within) w_methodLink_RainCover_120 w_static_RainCover_within__III_Z ⟨⟨by decide, by decide⟩, ⟨by decide, by decide⟩⟩ (Nat.le_of_ble_eq_true rfl) (fun v3 => ?_)
    refine a_if_ne 26 dX11_mean_19 (by decide) (fun c4 => ?_) (fun c4 => ?_)
    · refine a_ldc2 (v := (-9223372036854775808)) dX11_mean_22 w_constantLong_RainCover_327 ?_
      exact a_lret dX11_mean_25 rfl rfl (by decide) (by decide)
    · refine a_aload_n dX11_mean_26 rfl 0 rfl ?_
      refine a_iload_n dX11_mean_27 rfl 1 rfl ?_
      refine a_iload_n dX11_mean_28 rfl 2 rfl ?_
      refine a_iload_n dX11_mean_29 rfl 3 rfl ?_
      refine a_iload dX11_mean_30 4 rfl ?_
      refine a_cV_Si (r := p0) (ci := 12) (as := [.int p1, .int p2, .int p3, .int p4]) (st := []) dX11_mean_32 (c_X11_gatherPays l g h0 N p0 p1 p2 p3 p4) rfl km_X11_gatherPays (hm_X11_gatherPays) rfl (by decide) rfl (fun _ ee => g_X11_gatherPays ee) w_methodLink_RainCover_371 w_instanceMethod_RainCover_gatherPays__IIII_I w_selects_RainCover_RainCover_gatherPays__IIII_I_RainCover_gatherPays__IIII_I ⟨⟨by decide, by decide⟩, ⟨by decide, by decide⟩⟩ (Nat.le_of_ble_eq_true rfl) (fun q5 => ?_)
      refine a_istore (lc2 := [(6, .int q5.1), (0, .ref p0), (1, .int p1), (2, .int p2), (3, .int p3), (4, .int p4), (5, .int p5)]) dX11_mean_35 (by decide) rfl ?_
      refine a_iload dX11_mean_37 0 rfl ?_
      refine a_if_ne 48 dX11_mean_39 (by decide) (fun c6 => ?_) (fun c6 => ?_)
      · refine a_ldc2 (v := (-9223372036854775808)) dX11_mean_42 w_constantLong_RainCover_327 ?_
        refine a_goto 60 dX11_mean_45 (by decide) ?_
        exact a_lret dX11_mean_60 rfl rfl (by decide) (by decide)
      · refine a_aload_n dX11_mean_48 rfl 1 rfl ?_
        refine a_cV_Pl (r := p0) (ci := 12) (as := []) (st := []) dX11_mean_49 (c_X11_sumOfPays l g q5.2 N p0) rfl km_X11_sumOfPays (hm_X11_sumOfPays) rfl (by decide) rfl (fun _ ee => g_X11_sumOfPays ee) w_methodLink_RainCover_374 w_instanceMethod_RainCover_sumOfPays___J w_selects_RainCover_RainCover_sumOfPays___J_RainCover_sumOfPays___J ⟨⟨by decide, by decide⟩, ⟨by decide, by decide⟩⟩ (Nat.le_of_ble_eq_true rfl) (fun v7 => ?_)
        refine a_iload dX11_mean_52 0 rfl ?_
        refine a_i2l dX11_mean_54 ?_
        refine a_iload dX11_mean_55 6 rfl ?_
        refine a_cS_Pl (as := [.long v7, .long (q5.1 : Int32).toInt64, .int p5]) (st := []) dX11_mean_57 (c_X11_partOf l g q5.2 N v7 (q5.1 : Int32).toInt64 p5) rfl km_X11_partOf (hm_X11_partOf) w_methodLink_RainCover_336 w_static_RainCover_partOf__JJI_J ⟨⟨by decide, by decide⟩, ⟨by decide, by decide⟩⟩ (Nat.le_of_ble_eq_true rfl) (fun v8 => ?_)
        exact a_lret dX11_mean_60 rfl rfl (by decide) (by decide)
theorem dX11_roundedUp_0 : decode cX11_roundedUp 0 = .ok (.lload_n 2, 1) := by decide +kernel
theorem dX11_roundedUp_1 : decode cX11_roundedUp 1 = .ok (.lconst 0, 1) := by decide +kernel
theorem dX11_roundedUp_2 : decode cX11_roundedUp 2 = .ok (.lcmp, 1) := by decide +kernel
theorem dX11_roundedUp_3 : decode cX11_roundedUp 3 = .ok (.ifCond .gt 7, 3) := by decide +kernel
theorem dX11_roundedUp_6 : decode cX11_roundedUp 6 = .ok (.iconst 0, 1) := by decide +kernel
theorem dX11_roundedUp_7 : decode cX11_roundedUp 7 = .ok (.goto 11, 3) := by decide +kernel
theorem dX11_roundedUp_10 : decode cX11_roundedUp 10 = .ok (.lload_n 0, 1) := by decide +kernel
theorem dX11_roundedUp_11 : decode cX11_roundedUp 11 = .ok (.lload_n 2, 1) := by decide +kernel
theorem dX11_roundedUp_12 : decode cX11_roundedUp 12 = .ok (.ladd, 1) := by decide +kernel
theorem dX11_roundedUp_13 : decode cX11_roundedUp 13 = .ok (.lconst 1, 1) := by decide +kernel
theorem dX11_roundedUp_14 : decode cX11_roundedUp 14 = .ok (.lsub, 1) := by decide +kernel
theorem dX11_roundedUp_15 : decode cX11_roundedUp 15 = .ok (.lload_n 2, 1) := by decide +kernel
theorem dX11_roundedUp_16 : decode cX11_roundedUp 16 = .ok (.ldiv, 1) := by decide +kernel
theorem dX11_roundedUp_17 : decode cX11_roundedUp 17 = .ok (.l2i, 1) := by decide +kernel
theorem dX11_roundedUp_18 : decode cX11_roundedUp 18 = .ok (.ireturn, 1) := by decide +kernel
abbrev M_X11_roundedUp : MI := (RX11, cX11_roundedUp, 4, (some .int), ({ frames := 0, cells := 0, slots := 0, locals := 0 } : Room), 0, 0, false)
def f_X11_roundedUp (h : AH) (p0 : Int64) (p1 : Int64) : Option Int32 := (if 0 < (lg_cmp p1 0) then (if p1 = 0 then none else some ((((p0 + p1) - 1) / p1) : Int64).toInt32) else some 0)
theorem km_X11_roundedUp : KM yX11_roundedUp M_X11_roundedUp 2 := ⟨in_tb 928 (by decide +kernel) rfl, in_tb 1 (by decide +kernel) rfl, by decide +kernel, rfl, rfl⟩
theorem hm_X11_roundedUp : M_X11_roundedUp.2.2.2.2.2.1 = 0 ∧ M_X11_roundedUp.2.2.2.2.2.2.1 = 0 := ⟨rfl, rfl⟩
section
variable {l : Launch} {g : GG}
end
set_option maxRecDepth 100000 in
set_option maxHeartbeats 4000000 in
theorem c_X11_roundedUp (l : Launch) (g : GG) (h : AH) (p0 : Int64) (p1 : Int64) : CN l g yX11_roundedUp M_X11_roundedUp false [.long p0, .long p1] h ((rPi h)) (f_X11_roundedUp h p0 p1) := by
  refine CN.of (by decide) rfl (fun hh => by first | rfl | cases hh) (Nat.le_of_ble_eq_true rfl) ?_
  unfold f_X11_roundedUp
  refine a_lload_n dX11_roundedUp_0 rfl 1 rfl ?_
  refine a_lconst (v := 0) dX11_roundedUp_1 (by decide) ?_
  refine a_lcmp dX11_roundedUp_2 ?_
  refine a_if_gt 10 dX11_roundedUp_3 (by decide) (fun c1 => ?_) (fun c1 => ?_)
  · refine a_lload_n dX11_roundedUp_10 rfl 0 rfl ?_
    refine a_lload_n dX11_roundedUp_11 rfl 1 rfl ?_
    refine a_ladd dX11_roundedUp_12 ?_
    refine a_lconst (v := 1) dX11_roundedUp_13 (by decide) ?_
    refine a_lsub dX11_roundedUp_14 ?_
    refine a_lload_n dX11_roundedUp_15 rfl 1 rfl ?_
    refine a_ldiv dX11_roundedUp_16 (fun c2 => ?_)
    refine a_l2i dX11_roundedUp_17 ?_
    exact a_iret dX11_roundedUp_18 rfl rfl (by decide) (by decide)
  · refine a_iconst (v := 0) dX11_roundedUp_6 (by decide) ?_
    refine a_goto 18 dX11_roundedUp_7 (by decide) ?_
    exact a_iret dX11_roundedUp_18 rfl rfl (by decide) (by decide)
theorem dX11_priceOf_0 : decode cX11_priceOf 0 = .ok (.aload_n 0, 1) := by decide +kernel
theorem dX11_priceOf_1 : decode cX11_priceOf 1 = .ok (.iload_n 1, 1) := by decide +kernel
theorem dX11_priceOf_2 : decode cX11_priceOf 2 = .ok (.iload_n 2, 1) := by decide +kernel
theorem dX11_priceOf_3 : decode cX11_priceOf 3 = .ok (.iload_n 3, 1) := by decide +kernel
theorem dX11_priceOf_4 : decode cX11_priceOf 4 = .ok (.iload 4, 2) := by decide +kernel
theorem dX11_priceOf_6 : decode cX11_priceOf 6 = .ok (.invokevirtual 371, 3) := by decide +kernel
theorem dX11_priceOf_9 : decode cX11_priceOf 9 = .ok (.istore 5, 2) := by decide +kernel
theorem dX11_priceOf_11 : decode cX11_priceOf 11 = .ok (.iload 5, 2) := by decide +kernel
theorem dX11_priceOf_13 : decode cX11_priceOf 13 = .ok (.ifCond .ne 7, 3) := by decide +kernel
theorem dX11_priceOf_16 : decode cX11_priceOf 16 = .ok (.iconst 0, 1) := by decide +kernel
theorem dX11_priceOf_17 : decode cX11_priceOf 17 = .ok (.goto 28, 3) := by decide +kernel
theorem dX11_priceOf_20 : decode cX11_priceOf 20 = .ok (.aload_n 0, 1) := by decide +kernel
theorem dX11_priceOf_21 : decode cX11_priceOf 21 = .ok (.invokevirtual 374, 3) := by decide +kernel
theorem dX11_priceOf_24 : decode cX11_priceOf 24 = .ok (.bipush 100, 2) := by decide +kernel
theorem dX11_priceOf_26 : decode cX11_priceOf 26 = .ok (.aload_n 0, 1) := by decide +kernel
theorem dX11_priceOf_27 : decode cX11_priceOf 27 = .ok (.getfield 41, 3) := by decide +kernel
theorem dX11_priceOf_30 : decode cX11_priceOf 30 = .ok (.iconst 2, 1) := by decide +kernel
theorem dX11_priceOf_31 : decode cX11_priceOf 31 = .ok (.iaload, 1) := by decide +kernel
theorem dX11_priceOf_32 : decode cX11_priceOf 32 = .ok (.iadd, 1) := by decide +kernel
theorem dX11_priceOf_33 : decode cX11_priceOf 33 = .ok (.i2l, 1) := by decide +kernel
theorem dX11_priceOf_34 : decode cX11_priceOf 34 = .ok (.lmul, 1) := by decide +kernel
theorem dX11_priceOf_35 : decode cX11_priceOf 35 = .ok (.ldc2_w 381, 3) := by decide +kernel
theorem dX11_priceOf_38 : decode cX11_priceOf 38 = .ok (.iload 5, 2) := by decide +kernel
theorem dX11_priceOf_40 : decode cX11_priceOf 40 = .ok (.i2l, 1) := by decide +kernel
theorem dX11_priceOf_41 : decode cX11_priceOf 41 = .ok (.lmul, 1) := by decide +kernel
theorem dX11_priceOf_42 : decode cX11_priceOf 42 = .ok (.invokestatic 383, 3) := by decide +kernel
theorem dX11_priceOf_45 : decode cX11_priceOf 45 = .ok (.ireturn, 1) := by decide +kernel
abbrev M_X11_priceOf : MI := (RX11, cX11_priceOf, 6, (some .int), ({ frames := 7, cells := 0, slots := 0, locals := 174 } : Room), 0, 0, false)
def f_X11_priceOf (h0 : AH) (N : Nat) (p0 : Nat) (p1 : Int32) (p2 : Int32) (p3 : Int32) (p4 : Int32) : Option (Int32 × AH) := if kd h0 p0 = 12 + 1 then (f_X11_gatherPays h0 N p0 p1 p2 p3 p4).bind fun q1 => (if q1.1 = 0 then some (0, q1.2) else (f_X11_sumOfPays q1.2 N p0).bind fun v3 => (xgr q1.2 p0 12 6).bind fun v4 => (xia q1.2 v4 2).bind fun v5 => (f_X11_roundedUp q1.2 (v3 * ((100 + v5) : Int32).toInt64) (100 * (q1.1 : Int32).toInt64)).bind fun v6 => some (v6, q1.2)) else none
theorem g_X11_priceOf {h0 : AH} {N : Nat} {p0 : Nat} {p1 : Int32} {p2 : Int32} {p3 : Int32} {p4 : Int32} {x : (Int32 × AH)} (e : f_X11_priceOf h0 N p0 p1 p2 p3 p4 = some x) : kd h0 p0 = 12 + 1 := by
  unfold f_X11_priceOf at e
  by_cases hk : kd h0 p0 = 12 + 1
  · exact hk
  · rw [if_neg hk] at e
    cases e
theorem km_X11_priceOf : KM yX11_priceOf M_X11_priceOf 4 := ⟨in_tb 924 (by decide +kernel) rfl, in_tb 1 (by decide +kernel) rfl, by decide +kernel, rfl, rfl⟩
theorem hm_X11_priceOf : M_X11_priceOf.2.2.2.2.2.1 = 0 ∧ M_X11_priceOf.2.2.2.2.2.2.1 = 0 := ⟨rfl, rfl⟩
section
variable {l : Launch} {g : GG}
end
set_option maxRecDepth 100000 in
set_option maxHeartbeats 4000000 in
theorem c_X11_priceOf (l : Launch) (g : GG) (h0 : AH) (N : Nat) (p0 : Nat) (p1 : Int32) (p2 : Int32) (p3 : Int32) (p4 : Int32) : CN l g yX11_priceOf M_X11_priceOf false [.ref p0, .int p1, .int p2, .int p3, .int p4] h0 rSi (f_X11_priceOf h0 N p0 p1 p2 p3 p4) := by
  refine CN.of (by decide) rfl (fun hh => by first | rfl | cases hh) (Nat.le_of_ble_eq_true rfl) ?_
  unfold f_X11_priceOf
  refine a_gd (fun hkd => ?_)
  refine a_aload_n dX11_priceOf_0 rfl 0 rfl ?_
  refine a_iload_n dX11_priceOf_1 rfl 1 rfl ?_
  refine a_iload_n dX11_priceOf_2 rfl 2 rfl ?_
  refine a_iload_n dX11_priceOf_3 rfl 3 rfl ?_
  refine a_iload dX11_priceOf_4 4 rfl ?_
  refine a_cV_Si (r := p0) (ci := 12) (as := [.int p1, .int p2, .int p3, .int p4]) (st := []) dX11_priceOf_6 (c_X11_gatherPays l g h0 N p0 p1 p2 p3 p4) rfl km_X11_gatherPays (hm_X11_gatherPays) rfl (by decide) rfl (fun _ ee => g_X11_gatherPays ee) w_methodLink_RainCover_371 w_instanceMethod_RainCover_gatherPays__IIII_I w_selects_RainCover_RainCover_gatherPays__IIII_I_RainCover_gatherPays__IIII_I ⟨⟨by decide, by decide⟩, ⟨by decide, by decide⟩⟩ (Nat.le_of_ble_eq_true rfl) (fun q1 => ?_)
  refine a_istore (lc2 := [(5, .int q1.1), (0, .ref p0), (1, .int p1), (2, .int p2), (3, .int p3), (4, .int p4)]) dX11_priceOf_9 (by decide) rfl ?_
  refine a_iload dX11_priceOf_11 0 rfl ?_
  refine a_if_ne 20 dX11_priceOf_13 (by decide) (fun c2 => ?_) (fun c2 => ?_)
  · refine a_iconst (v := 0) dX11_priceOf_16 (by decide) ?_
    refine a_goto 45 dX11_priceOf_17 (by decide) ?_
    exact a_iret dX11_priceOf_45 rfl rfl (by decide) (by decide)
  · refine a_aload_n dX11_priceOf_20 rfl 1 rfl ?_
    refine a_cV_Pl (r := p0) (ci := 12) (as := []) (st := []) dX11_priceOf_21 (c_X11_sumOfPays l g q1.2 N p0) rfl km_X11_sumOfPays (hm_X11_sumOfPays) rfl (by decide) rfl (fun _ ee => g_X11_sumOfPays ee) w_methodLink_RainCover_374 w_instanceMethod_RainCover_sumOfPays___J w_selects_RainCover_RainCover_sumOfPays___J_RainCover_sumOfPays___J ⟨⟨by decide, by decide⟩, ⟨by decide, by decide⟩⟩ (Nat.le_of_ble_eq_true rfl) (fun v3 => ?_)
    refine a_bipush (v := 100) dX11_priceOf_24 (by decide) ?_
    refine a_aload_n dX11_priceOf_26 rfl 1 rfl ?_
    refine a_getr kc12 6 dX11_priceOf_27 (by decide) rfl w_fieldLink_RainCover_41 (fun v4 => ?_)
    refine a_iconst (v := 2) dX11_priceOf_30 (by decide) ?_
    refine a_iald dX11_priceOf_31 (fun v5 => ?_)
    refine a_iadd dX11_priceOf_32 ?_
    refine a_i2l dX11_priceOf_33 ?_
    refine a_lmul dX11_priceOf_34 ?_
    refine a_ldc2 (v := 100) dX11_priceOf_35 w_constantLong_RainCover_381 ?_
    refine a_iload dX11_priceOf_38 0 rfl ?_
    refine a_i2l dX11_priceOf_40 ?_
    refine a_lmul dX11_priceOf_41 ?_
    refine a_cS_Pi (as := [.long (v3 * ((100 + v5) : Int32).toInt64), .long (100 * (q1.1 : Int32).toInt64)]) (st := []) dX11_priceOf_42 (c_X11_roundedUp l g q1.2 (v3 * ((100 + v5) : Int32).toInt64) (100 * (q1.1 : Int32).toInt64)) rfl km_X11_roundedUp (hm_X11_roundedUp) w_methodLink_RainCover_383 w_static_RainCover_roundedUp__JJ_I ⟨⟨by decide, by decide⟩, ⟨by decide, by decide⟩⟩ (Nat.le_of_ble_eq_true rfl) (fun v6 => ?_)
    exact a_iret dX11_priceOf_45 rfl rfl (by decide) (by decide)
theorem dX11_price_0 : decode cX11_price 0 = .ok (.aload_n 0, 1) := by decide +kernel
theorem dX11_price_1 : decode cX11_price 1 = .ok (.iload_n 1, 1) := by decide +kernel
theorem dX11_price_2 : decode cX11_price 2 = .ok (.iload_n 2, 1) := by decide +kernel
theorem dX11_price_3 : decode cX11_price 3 = .ok (.iload_n 3, 1) := by decide +kernel
theorem dX11_price_4 : decode cX11_price 4 = .ok (.iload 4, 2) := by decide +kernel
theorem dX11_price_6 : decode cX11_price 6 = .ok (.invokevirtual 368, 3) := by decide +kernel
theorem dX11_price_9 : decode cX11_price 9 = .ok (.ifCond .ne 5, 3) := by decide +kernel
theorem dX11_price_12 : decode cX11_price 12 = .ok (.iconst (-1), 1) := by decide +kernel
theorem dX11_price_13 : decode cX11_price 13 = .ok (.ireturn, 1) := by decide +kernel
theorem dX11_price_14 : decode cX11_price 14 = .ok (.iload 5, 2) := by decide +kernel
theorem dX11_price_16 : decode cX11_price 16 = .ok (.tableswitch 76 0 2 #[28, 38, 66], 28) := by decide +kernel
theorem dX11_price_44 : decode cX11_price 44 = .ok (.aload_n 0, 1) := by decide +kernel
theorem dX11_price_45 : decode cX11_price 45 = .ok (.iload_n 1, 1) := by decide +kernel
theorem dX11_price_46 : decode cX11_price 46 = .ok (.iload_n 2, 1) := by decide +kernel
theorem dX11_price_47 : decode cX11_price 47 = .ok (.iload_n 3, 1) := by decide +kernel
theorem dX11_price_48 : decode cX11_price 48 = .ok (.iload 4, 2) := by decide +kernel
theorem dX11_price_50 : decode cX11_price 50 = .ok (.invokevirtual 378, 3) := by decide +kernel
theorem dX11_price_53 : decode cX11_price 53 = .ok (.ireturn, 1) := by decide +kernel
theorem dX11_price_54 : decode cX11_price 54 = .ok (.aload_n 0, 1) := by decide +kernel
theorem dX11_price_55 : decode cX11_price 55 = .ok (.iload_n 1, 1) := by decide +kernel
theorem dX11_price_56 : decode cX11_price 56 = .ok (.iload_n 2, 1) := by decide +kernel
theorem dX11_price_57 : decode cX11_price 57 = .ok (.iload_n 3, 1) := by decide +kernel
theorem dX11_price_58 : decode cX11_price 58 = .ok (.iload 4, 2) := by decide +kernel
theorem dX11_price_60 : decode cX11_price 60 = .ok (.invokevirtual 378, 3) := by decide +kernel
theorem dX11_price_63 : decode cX11_price 63 = .ok (.i2l, 1) := by decide +kernel
theorem dX11_price_64 : decode cX11_price 64 = .ok (.bipush 100, 2) := by decide +kernel
theorem dX11_price_66 : decode cX11_price 66 = .ok (.aload_n 0, 1) := by decide +kernel
theorem dX11_price_67 : decode cX11_price 67 = .ok (.getfield 41, 3) := by decide +kernel
theorem dX11_price_70 : decode cX11_price 70 = .ok (.iconst 3, 1) := by decide +kernel
theorem dX11_price_71 : decode cX11_price 71 = .ok (.iaload, 1) := by decide +kernel
theorem dX11_price_72 : decode cX11_price 72 = .ok (.isub, 1) := by decide +kernel
theorem dX11_price_73 : decode cX11_price 73 = .ok (.i2l, 1) := by decide +kernel
theorem dX11_price_74 : decode cX11_price 74 = .ok (.lmul, 1) := by decide +kernel
theorem dX11_price_75 : decode cX11_price 75 = .ok (.ldc2_w 381, 3) := by decide +kernel
theorem dX11_price_78 : decode cX11_price 78 = .ok (.invokestatic 383, 3) := by decide +kernel
theorem dX11_price_81 : decode cX11_price 81 = .ok (.ireturn, 1) := by decide +kernel
theorem dX11_price_82 : decode cX11_price 82 = .ok (.aload_n 0, 1) := by decide +kernel
theorem dX11_price_83 : decode cX11_price 83 = .ok (.iload_n 1, 1) := by decide +kernel
theorem dX11_price_84 : decode cX11_price 84 = .ok (.iload_n 2, 1) := by decide +kernel
theorem dX11_price_85 : decode cX11_price 85 = .ok (.iload_n 3, 1) := by decide +kernel
theorem dX11_price_86 : decode cX11_price 86 = .ok (.iload 4, 2) := by decide +kernel
theorem dX11_price_88 : decode cX11_price 88 = .ok (.invokevirtual 371, 3) := by decide +kernel
theorem dX11_price_91 : decode cX11_price 91 = .ok (.ireturn, 1) := by decide +kernel
theorem dX11_price_92 : decode cX11_price 92 = .ok (.iconst (-1), 1) := by decide +kernel
theorem dX11_price_93 : decode cX11_price 93 = .ok (.ireturn, 1) := by decide +kernel
abbrev M_X11_price : MI := (RX11, cX11_price, 6, (some .int), ({ frames := 8, cells := 0, slots := 0, locals := 199 } : Room), 0, 0, false)
def f_X11_price (h0 : AH) (N : Nat) (p0 : Nat) (p1 : Int32) (p2 : Int32) (p3 : Int32) (p4 : Int32) (p5 : Int32) : Option (Int32 × AH) := if kd h0 p0 = 12 + 1 then (f_X11_isOffer h0 p0 p1 p2 p3 p4).bind fun v1 => (if v1 = 0 then some ((-1), h0) else (if p5 = 0 then (f_X11_priceOf h0 N p0 p1 p2 p3 p4).bind fun q4 => some (q4.1, q4.2) else (if p5 = 1 then (f_X11_priceOf h0 N p0 p1 p2 p3 p4).bind fun q6 => (xgr q6.2 p0 12 6).bind fun v7 => (xia q6.2 v7 3).bind fun v8 => (f_X11_roundedUp q6.2 ((q6.1 : Int32).toInt64 * ((100 - v8) : Int32).toInt64) 100).bind fun v9 => some (v9, q6.2) else (if p5 = 2 then (f_X11_gatherPays h0 N p0 p1 p2 p3 p4).bind fun q11 => some (q11.1, q11.2) else some ((-1), h0))))) else none
theorem g_X11_price {h0 : AH} {N : Nat} {p0 : Nat} {p1 : Int32} {p2 : Int32} {p3 : Int32} {p4 : Int32} {p5 : Int32} {x : (Int32 × AH)} (e : f_X11_price h0 N p0 p1 p2 p3 p4 p5 = some x) : kd h0 p0 = 12 + 1 := by
  unfold f_X11_price at e
  by_cases hk : kd h0 p0 = 12 + 1
  · exact hk
  · rw [if_neg hk] at e
    cases e
theorem km_X11_price : KM yX11_price M_X11_price 5 := ⟨in_tb 920 (by decide +kernel) rfl, in_tb 1 (by decide +kernel) rfl, by decide +kernel, rfl, rfl⟩
theorem hm_X11_price : M_X11_price.2.2.2.2.2.1 = 0 ∧ M_X11_price.2.2.2.2.2.2.1 = 0 := ⟨rfl, rfl⟩
section
variable {l : Launch} {g : GG}
end
set_option maxRecDepth 100000 in
set_option maxHeartbeats 4000000 in
theorem c_X11_price (l : Launch) (g : GG) (h0 : AH) (N : Nat) (p0 : Nat) (p1 : Int32) (p2 : Int32) (p3 : Int32) (p4 : Int32) (p5 : Int32) : CN l g yX11_price M_X11_price false [.ref p0, .int p1, .int p2, .int p3, .int p4, .int p5] h0 rSi (f_X11_price h0 N p0 p1 p2 p3 p4 p5) := by
  refine CN.of (by decide) rfl (fun hh => by first | rfl | cases hh) (Nat.le_of_ble_eq_true rfl) ?_
  unfold f_X11_price
  refine a_gd (fun hkd => ?_)
  refine a_aload_n dX11_price_0 rfl 0 rfl ?_
  refine a_iload_n dX11_price_1 rfl 1 rfl ?_
  refine a_iload_n dX11_price_2 rfl 2 rfl ?_
  refine a_iload_n dX11_price_3 rfl 3 rfl ?_
  refine a_iload dX11_price_4 4 rfl ?_
  refine a_cV_Pi (r := p0) (ci := 12) (as := [.int p1, .int p2, .int p3, .int p4]) (st := []) dX11_price_6 (c_X11_isOffer l g h0 p0 p1 p2 p3 p4) rfl km_X11_isOffer (hm_X11_isOffer) rfl (by decide) rfl (fun _ ee => g_X11_isOffer ee) w_methodLink_RainCover_368 w_instanceMethod_RainCover_isOffer__IIII_Z w_selects_RainCover_RainCover_isOffer__IIII_Z_RainCover_isOffer__IIII_Z ⟨⟨by decide, by decide⟩, ⟨by decide, by decide⟩⟩ (Nat.le_of_ble_eq_true rfl) (fun v1 => ?_)
  refine a_if_ne 14 dX11_price_9 (by decide) (fun c2 => ?_) (fun c2 => ?_)
  · refine a_iconst (v := (-1)) dX11_price_12 (by decide) ?_
    exact a_iret dX11_price_13 rfl rfl (by decide) (by decide)
  · refine a_iload dX11_price_14 5 rfl ?_
    refine a_swt (v := 0) 44 dX11_price_16 (by decide) (by decide) (fun c3 => ?_) (fun c3 => ?_)
    · refine a_aload_n dX11_price_44 rfl 0 rfl ?_
      refine a_iload_n dX11_price_45 rfl 1 rfl ?_
      refine a_iload_n dX11_price_46 rfl 2 rfl ?_
      refine a_iload_n dX11_price_47 rfl 3 rfl ?_
      refine a_iload dX11_price_48 4 rfl ?_
      refine a_cV_Si (r := p0) (ci := 12) (as := [.int p1, .int p2, .int p3, .int p4]) (st := []) dX11_price_50 (c_X11_priceOf l g h0 N p0 p1 p2 p3 p4) rfl km_X11_priceOf (hm_X11_priceOf) rfl (by decide) rfl (fun _ ee => g_X11_priceOf ee) w_methodLink_RainCover_378 w_instanceMethod_RainCover_priceOf__IIII_I w_selects_RainCover_RainCover_priceOf__IIII_I_RainCover_priceOf__IIII_I ⟨⟨by decide, by decide⟩, ⟨by decide, by decide⟩⟩ (Nat.le_of_ble_eq_true rfl) (fun q4 => ?_)
      exact a_iret dX11_price_53 rfl rfl (by decide) (by decide)
    refine a_swt (v := 1) 54 dX11_price_16 (by decide) (by decide) (fun c5 => ?_) (fun c5 => ?_)
    · refine a_aload_n dX11_price_54 rfl 0 rfl ?_
      refine a_iload_n dX11_price_55 rfl 1 rfl ?_
      refine a_iload_n dX11_price_56 rfl 2 rfl ?_
      refine a_iload_n dX11_price_57 rfl 3 rfl ?_
      refine a_iload dX11_price_58 4 rfl ?_
      refine a_cV_Si (r := p0) (ci := 12) (as := [.int p1, .int p2, .int p3, .int p4]) (st := []) dX11_price_60 (c_X11_priceOf l g h0 N p0 p1 p2 p3 p4) rfl km_X11_priceOf (hm_X11_priceOf) rfl (by decide) rfl (fun _ ee => g_X11_priceOf ee) w_methodLink_RainCover_378 w_instanceMethod_RainCover_priceOf__IIII_I w_selects_RainCover_RainCover_priceOf__IIII_I_RainCover_priceOf__IIII_I ⟨⟨by decide, by decide⟩, ⟨by decide, by decide⟩⟩ (Nat.le_of_ble_eq_true rfl) (fun q6 => ?_)
      refine a_i2l dX11_price_63 ?_
      refine a_bipush (v := 100) dX11_price_64 (by decide) ?_
      refine a_aload_n dX11_price_66 rfl 0 rfl ?_
      refine a_getr kc12 6 dX11_price_67 (by decide) rfl w_fieldLink_RainCover_41 (fun v7 => ?_)
      refine a_iconst (v := 3) dX11_price_70 (by decide) ?_
      refine a_iald dX11_price_71 (fun v8 => ?_)
      refine a_isub dX11_price_72 ?_
      refine a_i2l dX11_price_73 ?_
      refine a_lmul dX11_price_74 ?_
      refine a_ldc2 (v := 100) dX11_price_75 w_constantLong_RainCover_381 ?_
      refine a_cS_Pi (as := [.long ((q6.1 : Int32).toInt64 * ((100 - v8) : Int32).toInt64), .long 100]) (st := []) dX11_price_78 (c_X11_roundedUp l g q6.2 ((q6.1 : Int32).toInt64 * ((100 - v8) : Int32).toInt64) 100) rfl km_X11_roundedUp (hm_X11_roundedUp) w_methodLink_RainCover_383 w_static_RainCover_roundedUp__JJ_I ⟨⟨by decide, by decide⟩, ⟨by decide, by decide⟩⟩ (Nat.le_of_ble_eq_true rfl) (fun v9 => ?_)
      exact a_iret dX11_price_81 rfl rfl (by decide) (by decide)
    refine a_swt (v := 2) 82 dX11_price_16 (by decide) (by decide) (fun c10 => ?_) (fun c10 => ?_)
    · refine a_aload_n dX11_price_82 rfl 0 rfl ?_
      refine a_iload_n dX11_price_83 rfl 1 rfl ?_
      refine a_iload_n dX11_price_84 rfl 2 rfl ?_
      refine a_iload_n dX11_price_85 rfl 3 rfl ?_
      refine a_iload dX11_price_86 4 rfl ?_
      refine a_cV_Si (r := p0) (ci := 12) (as := [.int p1, .int p2, .int p3, .int p4]) (st := []) dX11_price_88 (c_X11_gatherPays l g h0 N p0 p1 p2 p3 p4) rfl km_X11_gatherPays (hm_X11_gatherPays) rfl (by decide) rfl (fun _ ee => g_X11_gatherPays ee) w_methodLink_RainCover_371 w_instanceMethod_RainCover_gatherPays__IIII_I w_selects_RainCover_RainCover_gatherPays__IIII_I_RainCover_gatherPays__IIII_I ⟨⟨by decide, by decide⟩, ⟨by decide, by decide⟩⟩ (Nat.le_of_ble_eq_true rfl) (fun q11 => ?_)
      exact a_iret dX11_price_91 rfl rfl (by decide) (by decide)
    refine a_swtd (vs := [0, 1, 2]) 92 dX11_price_16 (by decide) (by decide) (List.forall_mem_cons.mpr ⟨c3, List.forall_mem_cons.mpr ⟨c5, List.forall_mem_cons.mpr ⟨c10, fun _ hh => absurd hh List.not_mem_nil⟩⟩⟩) ?_
    refine a_iconst (v := (-1)) dX11_price_92 (by decide) ?_
    exact a_iret dX11_price_93 rfl rfl (by decide) (by decide)
theorem dX11_trend_0 : decode cX11_trend 0 = .ok (.aload_n 0, 1) := by decide +kernel
theorem dX11_trend_1 : decode cX11_trend 1 = .ok (.iload_n 1, 1) := by decide +kernel
theorem dX11_trend_2 : decode cX11_trend 2 = .ok (.iload_n 2, 1) := by decide +kernel
theorem dX11_trend_3 : decode cX11_trend 3 = .ok (.iload_n 3, 1) := by decide +kernel
theorem dX11_trend_4 : decode cX11_trend 4 = .ok (.iload 4, 2) := by decide +kernel
theorem dX11_trend_6 : decode cX11_trend 6 = .ok (.invokevirtual 368, 3) := by decide +kernel
theorem dX11_trend_9 : decode cX11_trend 9 = .ok (.ifCond .eq 13, 3) := by decide +kernel
theorem dX11_trend_12 : decode cX11_trend 12 = .ok (.iload 5, 2) := by decide +kernel
theorem dX11_trend_14 : decode cX11_trend 14 = .ok (.iconst 0, 1) := by decide +kernel
theorem dX11_trend_15 : decode cX11_trend 15 = .ok (.iconst 1, 1) := by decide +kernel
theorem dX11_trend_16 : decode cX11_trend 16 = .ok (.invokestatic 120, 3) := by decide +kernel
theorem dX11_trend_19 : decode cX11_trend 19 = .ok (.ifCond .ne 7, 3) := by decide +kernel
theorem dX11_trend_22 : decode cX11_trend 22 = .ok (.ldc2_w 327, 3) := by decide +kernel
theorem dX11_trend_25 : decode cX11_trend 25 = .ok (.lreturn, 1) := by decide +kernel
theorem dX11_trend_26 : decode cX11_trend 26 = .ok (.aload_n 0, 1) := by decide +kernel
theorem dX11_trend_27 : decode cX11_trend 27 = .ok (.iload_n 1, 1) := by decide +kernel
theorem dX11_trend_28 : decode cX11_trend 28 = .ok (.iload_n 2, 1) := by decide +kernel
theorem dX11_trend_29 : decode cX11_trend 29 = .ok (.iload_n 3, 1) := by decide +kernel
theorem dX11_trend_30 : decode cX11_trend 30 = .ok (.iload 4, 2) := by decide +kernel
theorem dX11_trend_32 : decode cX11_trend 32 = .ok (.invokevirtual 371, 3) := by decide +kernel
theorem dX11_trend_35 : decode cX11_trend 35 = .ok (.istore 6, 2) := by decide +kernel
theorem dX11_trend_37 : decode cX11_trend 37 = .ok (.iload 6, 2) := by decide +kernel
theorem dX11_trend_39 : decode cX11_trend 39 = .ok (.iconst 2, 1) := by decide +kernel
theorem dX11_trend_40 : decode cX11_trend 40 = .ok (.if_icmp .ge 7, 3) := by decide +kernel
theorem dX11_trend_43 : decode cX11_trend 43 = .ok (.ldc2_w 327, 3) := by decide +kernel
theorem dX11_trend_46 : decode cX11_trend 46 = .ok (.lreturn, 1) := by decide +kernel
theorem dX11_trend_47 : decode cX11_trend 47 = .ok (.lconst 0, 1) := by decide +kernel
theorem dX11_trend_48 : decode cX11_trend 48 = .ok (.lstore 7, 2) := by decide +kernel
theorem dX11_trend_50 : decode cX11_trend 50 = .ok (.lconst 0, 1) := by decide +kernel
theorem dX11_trend_51 : decode cX11_trend 51 = .ok (.lstore 9, 2) := by decide +kernel
theorem dX11_trend_53 : decode cX11_trend 53 = .ok (.lconst 0, 1) := by decide +kernel
theorem dX11_trend_54 : decode cX11_trend 54 = .ok (.lstore 11, 2) := by decide +kernel
theorem dX11_trend_56 : decode cX11_trend 56 = .ok (.iconst 0, 1) := by decide +kernel
theorem dX11_trend_57 : decode cX11_trend 57 = .ok (.istore 13, 2) := by decide +kernel
theorem dX11_trend_59 : decode cX11_trend 59 = .ok (.iload 13, 2) := by decide +kernel
theorem dX11_trend_61 : decode cX11_trend 61 = .ok (.bipush 16, 2) := by decide +kernel
theorem dX11_trend_63 : decode cX11_trend 63 = .ok (.if_icmp .ge 59, 3) := by decide +kernel
theorem dX11_trend_66 : decode cX11_trend 66 = .ok (.aload_n 0, 1) := by decide +kernel
theorem dX11_trend_67 : decode cX11_trend 67 = .ok (.getfield 90, 3) := by decide +kernel
theorem dX11_trend_70 : decode cX11_trend 70 = .ok (.iload 13, 2) := by decide +kernel
theorem dX11_trend_72 : decode cX11_trend 72 = .ok (.iaload, 1) := by decide +kernel
theorem dX11_trend_73 : decode cX11_trend 73 = .ok (.iconst (-1), 1) := by decide +kernel
theorem dX11_trend_74 : decode cX11_trend 74 = .ok (.if_icmp .ne 6, 3) := by decide +kernel
theorem dX11_trend_77 : decode cX11_trend 77 = .ok (.goto 39, 3) := by decide +kernel
theorem dX11_trend_80 : decode cX11_trend 80 = .ok (.lload 7, 2) := by decide +kernel
theorem dX11_trend_82 : decode cX11_trend 82 = .ok (.iload 13, 2) := by decide +kernel
theorem dX11_trend_84 : decode cX11_trend 84 = .ok (.i2l, 1) := by decide +kernel
theorem dX11_trend_85 : decode cX11_trend 85 = .ok (.ladd, 1) := by decide +kernel
theorem dX11_trend_86 : decode cX11_trend 86 = .ok (.lstore 7, 2) := by decide +kernel
theorem dX11_trend_88 : decode cX11_trend 88 = .ok (.lload 9, 2) := by decide +kernel
theorem dX11_trend_90 : decode cX11_trend 90 = .ok (.iload 13, 2) := by decide +kernel
theorem dX11_trend_92 : decode cX11_trend 92 = .ok (.iload 13, 2) := by decide +kernel
theorem dX11_trend_94 : decode cX11_trend 94 = .ok (.imul, 1) := by decide +kernel
theorem dX11_trend_95 : decode cX11_trend 95 = .ok (.i2l, 1) := by decide +kernel
theorem dX11_trend_96 : decode cX11_trend 96 = .ok (.ladd, 1) := by decide +kernel
theorem dX11_trend_97 : decode cX11_trend 97 = .ok (.lstore 9, 2) := by decide +kernel
theorem dX11_trend_99 : decode cX11_trend 99 = .ok (.lload 11, 2) := by decide +kernel
theorem dX11_trend_101 : decode cX11_trend 101 = .ok (.iload 13, 2) := by decide +kernel
theorem dX11_trend_103 : decode cX11_trend 103 = .ok (.i2l, 1) := by decide +kernel
theorem dX11_trend_104 : decode cX11_trend 104 = .ok (.aload_n 0, 1) := by decide +kernel
theorem dX11_trend_105 : decode cX11_trend 105 = .ok (.getfield 90, 3) := by decide +kernel
theorem dX11_trend_108 : decode cX11_trend 108 = .ok (.iload 13, 2) := by decide +kernel
theorem dX11_trend_110 : decode cX11_trend 110 = .ok (.iaload, 1) := by decide +kernel
theorem dX11_trend_111 : decode cX11_trend 111 = .ok (.i2l, 1) := by decide +kernel
theorem dX11_trend_112 : decode cX11_trend 112 = .ok (.lmul, 1) := by decide +kernel
theorem dX11_trend_113 : decode cX11_trend 113 = .ok (.ladd, 1) := by decide +kernel
theorem dX11_trend_114 : decode cX11_trend 114 = .ok (.lstore 11, 2) := by decide +kernel
theorem dX11_trend_116 : decode cX11_trend 116 = .ok (.iinc 13 1, 3) := by decide +kernel
theorem dX11_trend_119 : decode cX11_trend 119 = .ok (.goto (-60), 3) := by decide +kernel
theorem dX11_trend_122 : decode cX11_trend 122 = .ok (.iload 6, 2) := by decide +kernel
theorem dX11_trend_124 : decode cX11_trend 124 = .ok (.i2l, 1) := by decide +kernel
theorem dX11_trend_125 : decode cX11_trend 125 = .ok (.lload 11, 2) := by decide +kernel
theorem dX11_trend_127 : decode cX11_trend 127 = .ok (.lmul, 1) := by decide +kernel
theorem dX11_trend_128 : decode cX11_trend 128 = .ok (.lload 7, 2) := by decide +kernel
theorem dX11_trend_130 : decode cX11_trend 130 = .ok (.aload_n 0, 1) := by decide +kernel
theorem dX11_trend_131 : decode cX11_trend 131 = .ok (.invokevirtual 374, 3) := by decide +kernel
theorem dX11_trend_134 : decode cX11_trend 134 = .ok (.lmul, 1) := by decide +kernel
theorem dX11_trend_135 : decode cX11_trend 135 = .ok (.lsub, 1) := by decide +kernel
theorem dX11_trend_136 : decode cX11_trend 136 = .ok (.iload 6, 2) := by decide +kernel
theorem dX11_trend_138 : decode cX11_trend 138 = .ok (.i2l, 1) := by decide +kernel
theorem dX11_trend_139 : decode cX11_trend 139 = .ok (.lload 9, 2) := by decide +kernel
theorem dX11_trend_141 : decode cX11_trend 141 = .ok (.lmul, 1) := by decide +kernel
theorem dX11_trend_142 : decode cX11_trend 142 = .ok (.lload 7, 2) := by decide +kernel
theorem dX11_trend_144 : decode cX11_trend 144 = .ok (.lload 7, 2) := by decide +kernel
theorem dX11_trend_146 : decode cX11_trend 146 = .ok (.lmul, 1) := by decide +kernel
theorem dX11_trend_147 : decode cX11_trend 147 = .ok (.lsub, 1) := by decide +kernel
theorem dX11_trend_148 : decode cX11_trend 148 = .ok (.iload 5, 2) := by decide +kernel
theorem dX11_trend_150 : decode cX11_trend 150 = .ok (.invokestatic 336, 3) := by decide +kernel
theorem dX11_trend_153 : decode cX11_trend 153 = .ok (.lreturn, 1) := by decide +kernel
abbrev M_X11_trend : MI := (RX11, cX11_trend, 14, (some .long), ({ frames := 7, cells := 0, slots := 0, locals := 174 } : Room), 0, 0, false)
def f_X11_trend_b116 (N : Nat) (K59 : AH → Nat → Int32 → Int32 → Int64 → Int64 → Int64 → Int32 → Option (Int64 × AH)) (h : AH) (x0 : Nat) (x5 : Int32) (x6 : Int32) (x7 : Int64) (x9 : Int64) (x11 : Int64) (x13 : Int32) : Option (Int64 × AH) := K59 h x0 x5 x6 x7 x9 x11 (x13 + 1)
def f_X11_trend_b59_body (N : Nat) (K59 : AH → Nat → Int32 → Int32 → Int64 → Int64 → Int64 → Int32 → Option (Int64 × AH)) (h : AH) (x0 : Nat) (x5 : Int32) (x6 : Int32) (x7 : Int64) (x9 : Int64) (x11 : Int64) (x13 : Int32) : Option (Int64 × AH) := (if 16 ≤ x13 then (f_X11_sumOfPays h N x0).bind fun v8 => (f_X11_partOf h N (((x6 : Int32).toInt64 * x11) - (x7 * v8)) (((x6 : Int32).toInt64 * x9) - (x7 * x7)) x5).bind fun v9 => some (v9, h) else (xgr h x0 12 18).bind fun v10 => (xia h v10 x13).bind fun v11 => (if v11 = (-1) then f_X11_trend_b116 N K59 h x0 x5 x6 x7 x9 x11 x13 else (xgr h x0 12 18).bind fun v13 => (xia h v13 x13).bind fun v14 => f_X11_trend_b116 N K59 h x0 x5 x6 (x7 + (x13 : Int32).toInt64) (x9 + ((x13 * x13) : Int32).toInt64) (x11 + ((x13 : Int32).toInt64 * (v14 : Int32).toInt64)) x13))
def f_X11_trend_b59 (N : Nat) : Nat → AH → Nat → Int32 → Int32 → Int64 → Int64 → Int64 → Int32 → Option (Int64 × AH)
  | 0, _, _, _, _, _, _, _, _ => none
  | n + 1, h, x0, x5, x6, x7, x9, x11, x13 => f_X11_trend_b59_body N  (f_X11_trend_b59 N  n) h x0 x5 x6 x7 x9 x11 x13
def f_X11_trend (h0 : AH) (N : Nat) (p0 : Nat) (p1 : Int32) (p2 : Int32) (p3 : Int32) (p4 : Int32) (p5 : Int32) : Option (Int64 × AH) := if kd h0 p0 = 12 + 1 then (f_X11_isOffer h0 p0 p1 p2 p3 p4).bind fun v1 => (if v1 = 0 then some ((-9223372036854775808), h0) else (f_X11_within h0 p5 0 1).bind fun v3 => (if v3 = 0 then some ((-9223372036854775808), h0) else (f_X11_gatherPays h0 N p0 p1 p2 p3 p4).bind fun q5 => (if 2 ≤ q5.1 then f_X11_trend_b59 N N q5.2 p0 p5 q5.1 0 0 0 0 else some ((-9223372036854775808), q5.2)))) else none
theorem g_X11_trend {h0 : AH} {N : Nat} {p0 : Nat} {p1 : Int32} {p2 : Int32} {p3 : Int32} {p4 : Int32} {p5 : Int32} {x : (Int64 × AH)} (e : f_X11_trend h0 N p0 p1 p2 p3 p4 p5 = some x) : kd h0 p0 = 12 + 1 := by
  unfold f_X11_trend at e
  by_cases hk : kd h0 p0 = 12 + 1
  · exact hk
  · rw [if_neg hk] at e
    cases e
theorem km_X11_trend : KM yX11_trend M_X11_trend 5 := ⟨in_tb 932 (by decide +kernel) rfl, in_tb 1 (by decide +kernel) rfl, by decide +kernel, rfl, rfl⟩
theorem hm_X11_trend : M_X11_trend.2.2.2.2.2.1 = 0 ∧ M_X11_trend.2.2.2.2.2.2.1 = 0 := ⟨rfl, rfl⟩
section
variable {l : Launch} {g : GG}
set_option maxRecDepth 100000 in
set_option maxHeartbeats 4000000 in
theorem t_X11_trend_b116 (h0 : AH) (N : Nat) (K59 : AH → Nat → Int32 → Int32 → Int64 → Int64 → Int64 → Int32 → Option (Int64 × AH)) (hK59 : ∀ (z : AH) (z0 : Nat) (z1 : Int32) (z2 : Int32) (z3 : Int64) (z4 : Int64) (z5 : Int64) (z6 : Int32), AO l g M_X11_trend false h0 59 [(0, .ref z0), (5, .int z1), (6, .int z2), (7, .long z3), (9, .long z4), (11, .long z5), (13, .int z6)] [] z 0 0 rSl (K59 z z0 z1 z2 z3 z4 z5 z6)) (h : AH) (x0 : Nat) (x5 : Int32) (x6 : Int32) (x7 : Int64) (x9 : Int64) (x11 : Int64) (x13 : Int32) : AO l g M_X11_trend false h0 116 [(0, .ref x0), (5, .int x5), (6, .int x6), (7, .long x7), (9, .long x9), (11, .long x11), (13, .int x13)] [] h 0 0 rSl (f_X11_trend_b116 N K59 h x0 x5 x6 x7 x9 x11 x13) := by
  unfold f_X11_trend_b116
  refine a_iinc (q := 6) (v := (x13 + 1)) (lc2 := [(13, .int (x13 + 1)), (0, .ref x0), (5, .int x5), (6, .int x6), (7, .long x7), (9, .long x9), (11, .long x11)]) dX11_trend_116 rfl rfl (by decide) rfl ?_
  refine a_goto 59 dX11_trend_119 (by decide) ?_
  refine a_pick (lc2 := [(0, .ref x0), (5, .int x5), (6, .int x6), (7, .long x7), (9, .long x9), (11, .long x11), (13, .int (x13 + 1))]) [1, 2, 3, 4, 5, 6, 0] rfl ?_
  exact hK59 h x0 x5 x6 x7 x9 x11 (x13 + 1)
set_option maxRecDepth 100000 in
set_option maxHeartbeats 4000000 in
theorem t_X11_trend_b59_body (h0 : AH) (N : Nat) (K59 : AH → Nat → Int32 → Int32 → Int64 → Int64 → Int64 → Int32 → Option (Int64 × AH)) (hK59 : ∀ (z : AH) (z0 : Nat) (z1 : Int32) (z2 : Int32) (z3 : Int64) (z4 : Int64) (z5 : Int64) (z6 : Int32), AO l g M_X11_trend false h0 59 [(0, .ref z0), (5, .int z1), (6, .int z2), (7, .long z3), (9, .long z4), (11, .long z5), (13, .int z6)] [] z 0 0 rSl (K59 z z0 z1 z2 z3 z4 z5 z6)) (h : AH) (x0 : Nat) (x5 : Int32) (x6 : Int32) (x7 : Int64) (x9 : Int64) (x11 : Int64) (x13 : Int32) : AO l g M_X11_trend false h0 59 [(0, .ref x0), (5, .int x5), (6, .int x6), (7, .long x7), (9, .long x9), (11, .long x11), (13, .int x13)] [] h 0 0 rSl (f_X11_trend_b59_body N K59 h x0 x5 x6 x7 x9 x11 x13) := by
  unfold f_X11_trend_b59_body
  refine a_iload dX11_trend_59 6 rfl ?_
  refine a_bipush (v := 16) dX11_trend_61 (by decide) ?_
  refine a_icmp_ge 122 dX11_trend_63 (by decide) (fun c7 => ?_) (fun c7 => ?_)
  · refine a_iload dX11_trend_122 2 rfl ?_
    refine a_i2l dX11_trend_124 ?_
    refine a_lload dX11_trend_125 5 rfl ?_
    refine a_lmul dX11_trend_127 ?_
    refine a_lload dX11_trend_128 3 rfl ?_
    refine a_aload_n dX11_trend_130 rfl 0 rfl ?_
    refine a_cV_Pl (r := x0) (ci := 12) (as := []) (st := [.long x7, .long ((x6 : Int32).toInt64 * x11)]) dX11_trend_131 (c_X11_sumOfPays l g h N x0) rfl km_X11_sumOfPays (hm_X11_sumOfPays) rfl (by decide) rfl (fun _ ee => g_X11_sumOfPays ee) w_methodLink_RainCover_374 w_instanceMethod_RainCover_sumOfPays___J w_selects_RainCover_RainCover_sumOfPays___J_RainCover_sumOfPays___J ⟨⟨by decide, by decide⟩, ⟨by decide, by decide⟩⟩ (Nat.le_of_ble_eq_true rfl) (fun v8 => ?_)
    refine a_lmul dX11_trend_134 ?_
    refine a_lsub dX11_trend_135 ?_
    refine a_iload dX11_trend_136 2 rfl ?_
    refine a_i2l dX11_trend_138 ?_
    refine a_lload dX11_trend_139 4 rfl ?_
    refine a_lmul dX11_trend_141 ?_
    refine a_lload dX11_trend_142 3 rfl ?_
    refine a_lload dX11_trend_144 3 rfl ?_
    refine a_lmul dX11_trend_146 ?_
    refine a_lsub dX11_trend_147 ?_
    refine a_iload dX11_trend_148 1 rfl ?_
    refine a_cS_Pl (as := [.long (((x6 : Int32).toInt64 * x11) - (x7 * v8)), .long (((x6 : Int32).toInt64 * x9) - (x7 * x7)), .int x5]) (st := []) dX11_trend_150 (c_X11_partOf l g h N (((x6 : Int32).toInt64 * x11) - (x7 * v8)) (((x6 : Int32).toInt64 * x9) - (x7 * x7)) x5) rfl km_X11_partOf (hm_X11_partOf) w_methodLink_RainCover_336 w_static_RainCover_partOf__JJI_J ⟨⟨by decide, by decide⟩, ⟨by decide, by decide⟩⟩ (Nat.le_of_ble_eq_true rfl) (fun v9 => ?_)
    exact a_lret dX11_trend_153 rfl rfl (by decide) (by decide)
  · refine a_aload_n dX11_trend_66 rfl 0 rfl ?_
    refine a_getr kc12 18 dX11_trend_67 (by decide) rfl w_fieldLink_RainCover_90 (fun v10 => ?_)
    refine a_iload dX11_trend_70 6 rfl ?_
    refine a_iald dX11_trend_72 (fun v11 => ?_)
    refine a_iconst (v := (-1)) dX11_trend_73 (by decide) ?_
    refine a_icmp_ne 80 dX11_trend_74 (by decide) (fun c12 => ?_) (fun c12 => ?_)
    · refine a_goto 116 dX11_trend_77 (by decide) ?_
      exact t_X11_trend_b116 h0 N K59 hK59 h x0 x5 x6 x7 x9 x11 x13
    · refine a_lload dX11_trend_80 3 rfl ?_
      refine a_iload dX11_trend_82 6 rfl ?_
      refine a_i2l dX11_trend_84 ?_
      refine a_ladd dX11_trend_85 ?_
      refine a_lstore (lc2 := [(7, .long (x7 + (x13 : Int32).toInt64)), (0, .ref x0), (5, .int x5), (6, .int x6), (9, .long x9), (11, .long x11), (13, .int x13)]) dX11_trend_86 (by decide) rfl ?_
      refine a_lload dX11_trend_88 4 rfl ?_
      refine a_iload dX11_trend_90 6 rfl ?_
      refine a_iload dX11_trend_92 6 rfl ?_
      refine a_imul dX11_trend_94 ?_
      refine a_i2l dX11_trend_95 ?_
      refine a_ladd dX11_trend_96 ?_
      refine a_lstore (lc2 := [(9, .long (x9 + ((x13 * x13) : Int32).toInt64)), (7, .long (x7 + (x13 : Int32).toInt64)), (0, .ref x0), (5, .int x5), (6, .int x6), (11, .long x11), (13, .int x13)]) dX11_trend_97 (by decide) rfl ?_
      refine a_lload dX11_trend_99 5 rfl ?_
      refine a_iload dX11_trend_101 6 rfl ?_
      refine a_i2l dX11_trend_103 ?_
      refine a_aload_n dX11_trend_104 rfl 2 rfl ?_
      refine a_getr kc12 18 dX11_trend_105 (by decide) rfl w_fieldLink_RainCover_90 (fun v13 => ?_)
      refine a_iload dX11_trend_108 6 rfl ?_
      refine a_iald dX11_trend_110 (fun v14 => ?_)
      refine a_i2l dX11_trend_111 ?_
      refine a_lmul dX11_trend_112 ?_
      refine a_ladd dX11_trend_113 ?_
      refine a_lstore (lc2 := [(11, .long (x11 + ((x13 : Int32).toInt64 * (v14 : Int32).toInt64))), (9, .long (x9 + ((x13 * x13) : Int32).toInt64)), (7, .long (x7 + (x13 : Int32).toInt64)), (0, .ref x0), (5, .int x5), (6, .int x6), (13, .int x13)]) dX11_trend_114 (by decide) rfl ?_
      refine a_pick (lc2 := [(0, .ref x0), (5, .int x5), (6, .int x6), (7, .long (x7 + (x13 : Int32).toInt64)), (9, .long (x9 + ((x13 * x13) : Int32).toInt64)), (11, .long (x11 + ((x13 : Int32).toInt64 * (v14 : Int32).toInt64))), (13, .int x13)]) [3, 4, 5, 2, 1, 0, 6] rfl ?_
      exact t_X11_trend_b116 h0 N K59 hK59 h x0 x5 x6 (x7 + (x13 : Int32).toInt64) (x9 + ((x13 * x13) : Int32).toInt64) (x11 + ((x13 : Int32).toInt64 * (v14 : Int32).toInt64)) x13
set_option maxRecDepth 100000 in
set_option maxHeartbeats 4000000 in
theorem t_X11_trend_b59 (h0 : AH) (N : Nat) : ∀ (n : Nat) (h : AH) (x0 : Nat) (x5 : Int32) (x6 : Int32) (x7 : Int64) (x9 : Int64) (x11 : Int64) (x13 : Int32) , AO l g M_X11_trend false h0 59 [(0, .ref x0), (5, .int x5), (6, .int x6), (7, .long x7), (9, .long x9), (11, .long x11), (13, .int x13)] [] h 0 0 rSl (f_X11_trend_b59 N  n h x0 x5 x6 x7 x9 x11 x13) := by
  intro n
  induction n with
  | zero => intro h x0 x5 x6 x7 x9 x11 x13; exact a_eq rfl a_none
  | succ n ih => intro h x0 x5 x6 x7 x9 x11 x13; exact a_eq rfl (t_X11_trend_b59_body h0 N  (f_X11_trend_b59 N  n) ih h x0 x5 x6 x7 x9 x11 x13)
end
set_option maxRecDepth 100000 in
set_option maxHeartbeats 4000000 in
theorem c_X11_trend (l : Launch) (g : GG) (h0 : AH) (N : Nat) (p0 : Nat) (p1 : Int32) (p2 : Int32) (p3 : Int32) (p4 : Int32) (p5 : Int32) : CN l g yX11_trend M_X11_trend false [.ref p0, .int p1, .int p2, .int p3, .int p4, .int p5] h0 rSl (f_X11_trend h0 N p0 p1 p2 p3 p4 p5) := by
  refine CN.of (by decide) rfl (fun hh => by first | rfl | cases hh) (Nat.le_of_ble_eq_true rfl) ?_
  unfold f_X11_trend
  refine a_gd (fun hkd => ?_)
  refine a_aload_n dX11_trend_0 rfl 0 rfl ?_
  refine a_iload_n dX11_trend_1 rfl 1 rfl ?_
  refine a_iload_n dX11_trend_2 rfl 2 rfl ?_
  refine a_iload_n dX11_trend_3 rfl 3 rfl ?_
  refine a_iload dX11_trend_4 4 rfl ?_
  refine a_cV_Pi (r := p0) (ci := 12) (as := [.int p1, .int p2, .int p3, .int p4]) (st := []) dX11_trend_6 (c_X11_isOffer l g h0 p0 p1 p2 p3 p4) rfl km_X11_isOffer (hm_X11_isOffer) rfl (by decide) rfl (fun _ ee => g_X11_isOffer ee) w_methodLink_RainCover_368 w_instanceMethod_RainCover_isOffer__IIII_Z w_selects_RainCover_RainCover_isOffer__IIII_Z_RainCover_isOffer__IIII_Z ⟨⟨by decide, by decide⟩, ⟨by decide, by decide⟩⟩ (Nat.le_of_ble_eq_true rfl) (fun v1 => ?_)
  refine a_if_eq 22 dX11_trend_9 (by decide) (fun c2 => ?_) (fun c2 => ?_)
  · refine a_ldc2 (v := (-9223372036854775808)) dX11_trend_22 w_constantLong_RainCover_327 ?_
    exact a_lret dX11_trend_25 rfl rfl (by decide) (by decide)
  · refine a_iload dX11_trend_12 5 rfl ?_
    refine a_iconst (v := 0) dX11_trend_14 (by decide) ?_
    refine a_iconst (v := 1) dX11_trend_15 (by decide) ?_
    refine a_cS_Pi (as := [.int p5, .int 0, .int 1]) (st := []) dX11_trend_16 (c_X11_within l g h0 p5 0 1) rfl km_X11_within (hm_X11_within) w_methodLink_RainCover_120 w_static_RainCover_within__III_Z ⟨⟨by decide, by decide⟩, ⟨by decide, by decide⟩⟩ (Nat.le_of_ble_eq_true rfl) (fun v3 => ?_)
    refine a_if_ne 26 dX11_trend_19 (by decide) (fun c4 => ?_) (fun c4 => ?_)
    · refine a_ldc2 (v := (-9223372036854775808)) dX11_trend_22 w_constantLong_RainCover_327 ?_
      exact a_lret dX11_trend_25 rfl rfl (by decide) (by decide)
    · refine a_aload_n dX11_trend_26 rfl 0 rfl ?_
      refine a_iload_n dX11_trend_27 rfl 1 rfl ?_
      refine a_iload_n dX11_trend_28 rfl 2 rfl ?_
      refine a_iload_n dX11_trend_29 rfl 3 rfl ?_
      refine a_iload dX11_trend_30 4 rfl ?_
      refine a_cV_Si (r := p0) (ci := 12) (as := [.int p1, .int p2, .int p3, .int p4]) (st := []) dX11_trend_32 (c_X11_gatherPays l g h0 N p0 p1 p2 p3 p4) rfl km_X11_gatherPays (hm_X11_gatherPays) rfl (by decide) rfl (fun _ ee => g_X11_gatherPays ee) w_methodLink_RainCover_371 w_instanceMethod_RainCover_gatherPays__IIII_I w_selects_RainCover_RainCover_gatherPays__IIII_I_RainCover_gatherPays__IIII_I ⟨⟨by decide, by decide⟩, ⟨by decide, by decide⟩⟩ (Nat.le_of_ble_eq_true rfl) (fun q5 => ?_)
      refine a_istore (lc2 := [(6, .int q5.1), (0, .ref p0), (1, .int p1), (2, .int p2), (3, .int p3), (4, .int p4), (5, .int p5)]) dX11_trend_35 (by decide) rfl ?_
      refine a_iload dX11_trend_37 0 rfl ?_
      refine a_iconst (v := 2) dX11_trend_39 (by decide) ?_
      refine a_icmp_ge 47 dX11_trend_40 (by decide) (fun c6 => ?_) (fun c6 => ?_)
      · refine a_lconst (v := 0) dX11_trend_47 (by decide) ?_
        refine a_lstore (lc2 := [(7, .long 0), (6, .int q5.1), (0, .ref p0), (1, .int p1), (2, .int p2), (3, .int p3), (4, .int p4), (5, .int p5)]) dX11_trend_48 (by decide) rfl ?_
        refine a_lconst (v := 0) dX11_trend_50 (by decide) ?_
        refine a_lstore (lc2 := [(9, .long 0), (7, .long 0), (6, .int q5.1), (0, .ref p0), (1, .int p1), (2, .int p2), (3, .int p3), (4, .int p4), (5, .int p5)]) dX11_trend_51 (by decide) rfl ?_
        refine a_lconst (v := 0) dX11_trend_53 (by decide) ?_
        refine a_lstore (lc2 := [(11, .long 0), (9, .long 0), (7, .long 0), (6, .int q5.1), (0, .ref p0), (1, .int p1), (2, .int p2), (3, .int p3), (4, .int p4), (5, .int p5)]) dX11_trend_54 (by decide) rfl ?_
        refine a_iconst (v := 0) dX11_trend_56 (by decide) ?_
        refine a_istore (lc2 := [(13, .int 0), (11, .long 0), (9, .long 0), (7, .long 0), (6, .int q5.1), (0, .ref p0), (1, .int p1), (2, .int p2), (3, .int p3), (4, .int p4), (5, .int p5)]) dX11_trend_57 (by decide) rfl ?_
        refine a_pick (lc2 := [(0, .ref p0), (5, .int p5), (6, .int q5.1), (7, .long 0), (9, .long 0), (11, .long 0), (13, .int 0)]) [5, 10, 4, 3, 2, 1, 0] rfl ?_
        exact t_X11_trend_b59 h0 N N q5.2 p0 p5 q5.1 0 0 0 0
      · refine a_ldc2 (v := (-9223372036854775808)) dX11_trend_43 w_constantLong_RainCover_327 ?_
        exact a_lret dX11_trend_46 rfl rfl (by decide) (by decide)
theorem dX11_beside_0 : decode cX11_beside 0 = .ok (.aload_n 0, 1) := by decide +kernel
theorem dX11_beside_1 : decode cX11_beside 1 = .ok (.iload_n 1, 1) := by decide +kernel
theorem dX11_beside_2 : decode cX11_beside 2 = .ok (.invokevirtual 219, 3) := by decide +kernel
theorem dX11_beside_5 : decode cX11_beside 5 = .ok (.ifCond .eq 26, 3) := by decide +kernel
theorem dX11_beside_8 : decode cX11_beside 8 = .ok (.aload_n 0, 1) := by decide +kernel
theorem dX11_beside_9 : decode cX11_beside 9 = .ok (.iload_n 2, 1) := by decide +kernel
theorem dX11_beside_10 : decode cX11_beside 10 = .ok (.iload_n 3, 1) := by decide +kernel
theorem dX11_beside_11 : decode cX11_beside 11 = .ok (.iload 4, 2) := by decide +kernel
theorem dX11_beside_13 : decode cX11_beside 13 = .ok (.iload 5, 2) := by decide +kernel
theorem dX11_beside_15 : decode cX11_beside 15 = .ok (.invokevirtual 368, 3) := by decide +kernel
theorem dX11_beside_18 : decode cX11_beside 18 = .ok (.ifCond .eq 13, 3) := by decide +kernel
theorem dX11_beside_21 : decode cX11_beside 21 = .ok (.iload 6, 2) := by decide +kernel
theorem dX11_beside_23 : decode cX11_beside 23 = .ok (.iconst 0, 1) := by decide +kernel
theorem dX11_beside_24 : decode cX11_beside 24 = .ok (.iconst 3, 1) := by decide +kernel
theorem dX11_beside_25 : decode cX11_beside 25 = .ok (.invokestatic 120, 3) := by decide +kernel
theorem dX11_beside_28 : decode cX11_beside 28 = .ok (.ifCond .ne 5, 3) := by decide +kernel
theorem dX11_beside_31 : decode cX11_beside 31 = .ok (.iconst (-1), 1) := by decide +kernel
theorem dX11_beside_32 : decode cX11_beside 32 = .ok (.ireturn, 1) := by decide +kernel
theorem dX11_beside_33 : decode cX11_beside 33 = .ok (.iconst 0, 1) := by decide +kernel
theorem dX11_beside_34 : decode cX11_beside 34 = .ok (.istore 7, 2) := by decide +kernel
theorem dX11_beside_36 : decode cX11_beside 36 = .ok (.iconst 0, 1) := by decide +kernel
theorem dX11_beside_37 : decode cX11_beside 37 = .ok (.istore 8, 2) := by decide +kernel
theorem dX11_beside_39 : decode cX11_beside 39 = .ok (.iload 8, 2) := by decide +kernel
theorem dX11_beside_41 : decode cX11_beside 41 = .ok (.bipush 16, 2) := by decide +kernel
theorem dX11_beside_43 : decode cX11_beside 43 = .ok (.if_icmp .ge 114, 3) := by decide +kernel
theorem dX11_beside_46 : decode cX11_beside 46 = .ok (.aload_n 0, 1) := by decide +kernel
theorem dX11_beside_47 : decode cX11_beside 47 = .ok (.iload_n 3, 1) := by decide +kernel
theorem dX11_beside_48 : decode cX11_beside 48 = .ok (.iload 8, 2) := by decide +kernel
theorem dX11_beside_50 : decode cX11_beside 50 = .ok (.invokevirtual 387, 3) := by decide +kernel
theorem dX11_beside_53 : decode cX11_beside 53 = .ok (.ifCond .ne 6, 3) := by decide +kernel
theorem dX11_beside_56 : decode cX11_beside 56 = .ok (.goto 95, 3) := by decide +kernel
theorem dX11_beside_59 : decode cX11_beside 59 = .ok (.aload_n 0, 1) := by decide +kernel
theorem dX11_beside_60 : decode cX11_beside 60 = .ok (.iload_n 1, 1) := by decide +kernel
theorem dX11_beside_61 : decode cX11_beside 61 = .ok (.iload_n 3, 1) := by decide +kernel
theorem dX11_beside_62 : decode cX11_beside 62 = .ok (.iload 8, 2) := by decide +kernel
theorem dX11_beside_64 : decode cX11_beside 64 = .ok (.iload 4, 2) := by decide +kernel
theorem dX11_beside_66 : decode cX11_beside 66 = .ok (.iload 5, 2) := by decide +kernel
theorem dX11_beside_68 : decode cX11_beside 68 = .ok (.aload_n 0, 1) := by decide +kernel
theorem dX11_beside_69 : decode cX11_beside 69 = .ok (.invokevirtual 179, 3) := by decide +kernel
theorem dX11_beside_72 : decode cX11_beside 72 = .ok (.invokevirtual 222, 3) := by decide +kernel
theorem dX11_beside_75 : decode cX11_beside 75 = .ok (.ifCond .le 7, 3) := by decide +kernel
theorem dX11_beside_78 : decode cX11_beside 78 = .ok (.iconst 1, 1) := by decide +kernel
theorem dX11_beside_79 : decode cX11_beside 79 = .ok (.goto 4, 3) := by decide +kernel
theorem dX11_beside_82 : decode cX11_beside 82 = .ok (.iconst 0, 1) := by decide +kernel
theorem dX11_beside_83 : decode cX11_beside 83 = .ok (.istore 9, 2) := by decide +kernel
theorem dX11_beside_85 : decode cX11_beside 85 = .ok (.aload_n 0, 1) := by decide +kernel
theorem dX11_beside_86 : decode cX11_beside 86 = .ok (.iload_n 2, 1) := by decide +kernel
theorem dX11_beside_87 : decode cX11_beside 87 = .ok (.iload_n 3, 1) := by decide +kernel
theorem dX11_beside_88 : decode cX11_beside 88 = .ok (.iload 8, 2) := by decide +kernel
theorem dX11_beside_90 : decode cX11_beside 90 = .ok (.iload 4, 2) := by decide +kernel
theorem dX11_beside_92 : decode cX11_beside 92 = .ok (.iload 5, 2) := by decide +kernel
theorem dX11_beside_94 : decode cX11_beside 94 = .ok (.aload_n 0, 1) := by decide +kernel
theorem dX11_beside_95 : decode cX11_beside 95 = .ok (.invokevirtual 179, 3) := by decide +kernel
theorem dX11_beside_98 : decode cX11_beside 98 = .ok (.invokevirtual 222, 3) := by decide +kernel
theorem dX11_beside_101 : decode cX11_beside 101 = .ok (.ifCond .le 7, 3) := by decide +kernel
theorem dX11_beside_104 : decode cX11_beside 104 = .ok (.iconst 1, 1) := by decide +kernel
theorem dX11_beside_105 : decode cX11_beside 105 = .ok (.goto 4, 3) := by decide +kernel
theorem dX11_beside_108 : decode cX11_beside 108 = .ok (.iconst 0, 1) := by decide +kernel
theorem dX11_beside_109 : decode cX11_beside 109 = .ok (.istore 10, 2) := by decide +kernel
theorem dX11_beside_111 : decode cX11_beside 111 = .ok (.iload 9, 2) := by decide +kernel
theorem dX11_beside_113 : decode cX11_beside 113 = .ok (.ifCond .eq 16, 3) := by decide +kernel
theorem dX11_beside_116 : decode cX11_beside 116 = .ok (.iload 10, 2) := by decide +kernel
theorem dX11_beside_118 : decode cX11_beside 118 = .ok (.ifCond .eq 7, 3) := by decide +kernel
theorem dX11_beside_121 : decode cX11_beside 121 = .ok (.iconst 2, 1) := by decide +kernel
theorem dX11_beside_122 : decode cX11_beside 122 = .ok (.goto 17, 3) := by decide +kernel
theorem dX11_beside_125 : decode cX11_beside 125 = .ok (.iconst 0, 1) := by decide +kernel
theorem dX11_beside_126 : decode cX11_beside 126 = .ok (.goto 13, 3) := by decide +kernel
theorem dX11_beside_129 : decode cX11_beside 129 = .ok (.iload 10, 2) := by decide +kernel
theorem dX11_beside_131 : decode cX11_beside 131 = .ok (.ifCond .eq 7, 3) := by decide +kernel
theorem dX11_beside_134 : decode cX11_beside 134 = .ok (.iconst 1, 1) := by decide +kernel
theorem dX11_beside_135 : decode cX11_beside 135 = .ok (.goto 4, 3) := by decide +kernel
theorem dX11_beside_138 : decode cX11_beside 138 = .ok (.iconst 3, 1) := by decide +kernel
theorem dX11_beside_139 : decode cX11_beside 139 = .ok (.istore 11, 2) := by decide +kernel
theorem dX11_beside_141 : decode cX11_beside 141 = .ok (.iload 11, 2) := by decide +kernel
theorem dX11_beside_143 : decode cX11_beside 143 = .ok (.iload 6, 2) := by decide +kernel
theorem dX11_beside_145 : decode cX11_beside 145 = .ok (.if_icmp .ne 6, 3) := by decide +kernel
theorem dX11_beside_148 : decode cX11_beside 148 = .ok (.iinc 7 1, 3) := by decide +kernel
theorem dX11_beside_151 : decode cX11_beside 151 = .ok (.iinc 8 1, 3) := by decide +kernel
theorem dX11_beside_154 : decode cX11_beside 154 = .ok (.goto (-115), 3) := by decide +kernel
theorem dX11_beside_157 : decode cX11_beside 157 = .ok (.iload 7, 2) := by decide +kernel
theorem dX11_beside_159 : decode cX11_beside 159 = .ok (.ireturn, 1) := by decide +kernel
abbrev M_X11_beside : MI := (RX11, cX11_beside, 12, (some .int), ({ frames := 6, cells := 0, slots := 0, locals := 148 } : Room), 0, 0, false)
def f_X11_beside_b151 (N : Nat) (K39 : AH → Nat → Int32 → Int32 → Int32 → Int32 → Int32 → Int32 → Int32 → Int32 → Option (Int32 × AH)) (h : AH) (x0 : Nat) (x1 : Int32) (x2 : Int32) (x3 : Int32) (x4 : Int32) (x5 : Int32) (x6 : Int32) (x7 : Int32) (x8 : Int32) : Option (Int32 × AH) := K39 h x0 x1 x2 x3 x4 x5 x6 x7 (x8 + 1)
def f_X11_beside_b139 (N : Nat) (K39 : AH → Nat → Int32 → Int32 → Int32 → Int32 → Int32 → Int32 → Int32 → Int32 → Option (Int32 × AH)) (h : AH) (x0 : Nat) (x1 : Int32) (x2 : Int32) (x3 : Int32) (x4 : Int32) (x5 : Int32) (x6 : Int32) (x7 : Int32) (x8 : Int32) (s9 : Int32) : Option (Int32 × AH) := (if s9 = x6 then f_X11_beside_b151 N K39 h x0 x1 x2 x3 x4 x5 x6 (x7 + 1) x8 else f_X11_beside_b151 N K39 h x0 x1 x2 x3 x4 x5 x6 x7 x8)
def f_X11_beside_b109 (N : Nat) (K39 : AH → Nat → Int32 → Int32 → Int32 → Int32 → Int32 → Int32 → Int32 → Int32 → Option (Int32 × AH)) (h : AH) (x0 : Nat) (x1 : Int32) (x2 : Int32) (x3 : Int32) (x4 : Int32) (x5 : Int32) (x6 : Int32) (x7 : Int32) (x8 : Int32) (x9 : Int32) (s10 : Int32) : Option (Int32 × AH) := (if x9 = 0 then (if s10 = 0 then f_X11_beside_b139 N K39 h x0 x1 x2 x3 x4 x5 x6 x7 x8 3 else f_X11_beside_b139 N K39 h x0 x1 x2 x3 x4 x5 x6 x7 x8 1) else (if s10 = 0 then f_X11_beside_b139 N K39 h x0 x1 x2 x3 x4 x5 x6 x7 x8 0 else f_X11_beside_b139 N K39 h x0 x1 x2 x3 x4 x5 x6 x7 x8 2))
def f_X11_beside_b83 (N : Nat) (K39 : AH → Nat → Int32 → Int32 → Int32 → Int32 → Int32 → Int32 → Int32 → Int32 → Option (Int32 × AH)) (h : AH) (x0 : Nat) (x1 : Int32) (x2 : Int32) (x3 : Int32) (x4 : Int32) (x5 : Int32) (x6 : Int32) (x7 : Int32) (x8 : Int32) (s9 : Int32) : Option (Int32 × AH) := (f_X11_now h x0).bind fun v13 => (f_X11_payOn h N x0 x2 x3 x8 x4 x5 v13).bind fun q14 => (if q14.1 ≤ 0 then f_X11_beside_b109 N K39 q14.2 x0 x1 x2 x3 x4 x5 x6 x7 x8 s9 0 else f_X11_beside_b109 N K39 q14.2 x0 x1 x2 x3 x4 x5 x6 x7 x8 s9 1)
def f_X11_beside_b39_body (N : Nat) (K39 : AH → Nat → Int32 → Int32 → Int32 → Int32 → Int32 → Int32 → Int32 → Int32 → Option (Int32 × AH)) (h : AH) (x0 : Nat) (x1 : Int32) (x2 : Int32) (x3 : Int32) (x4 : Int32) (x5 : Int32) (x6 : Int32) (x7 : Int32) (x8 : Int32) : Option (Int32 × AH) := (if 16 ≤ x8 then some (x7, h) else (f_X11_isKnown h N x0 x3 x8).bind fun v8 => (if v8 = 0 then f_X11_beside_b151 N K39 h x0 x1 x2 x3 x4 x5 x6 x7 x8 else (f_X11_now h x0).bind fun v10 => (f_X11_payOn h N x0 x1 x3 x8 x4 x5 v10).bind fun q11 => (if q11.1 ≤ 0 then f_X11_beside_b83 N K39 q11.2 x0 x1 x2 x3 x4 x5 x6 x7 x8 0 else f_X11_beside_b83 N K39 q11.2 x0 x1 x2 x3 x4 x5 x6 x7 x8 1)))
def f_X11_beside_b39 (N : Nat) : Nat → AH → Nat → Int32 → Int32 → Int32 → Int32 → Int32 → Int32 → Int32 → Int32 → Option (Int32 × AH)
  | 0, _, _, _, _, _, _, _, _, _, _ => none
  | n + 1, h, x0, x1, x2, x3, x4, x5, x6, x7, x8 => f_X11_beside_b39_body N  (f_X11_beside_b39 N  n) h x0 x1 x2 x3 x4 x5 x6 x7 x8
def f_X11_beside (h0 : AH) (N : Nat) (p0 : Nat) (p1 : Int32) (p2 : Int32) (p3 : Int32) (p4 : Int32) (p5 : Int32) (p6 : Int32) : Option (Int32 × AH) := if kd h0 p0 = 12 + 1 then (f_X11_isTerm h0 p0 p1).bind fun v1 => (if v1 = 0 then some ((-1), h0) else (f_X11_isOffer h0 p0 p2 p3 p4 p5).bind fun v3 => (if v3 = 0 then some ((-1), h0) else (f_X11_within h0 p6 0 3).bind fun v5 => (if v5 = 0 then some ((-1), h0) else f_X11_beside_b39 N N h0 p0 p1 p2 p3 p4 p5 p6 0 0))) else none
theorem g_X11_beside {h0 : AH} {N : Nat} {p0 : Nat} {p1 : Int32} {p2 : Int32} {p3 : Int32} {p4 : Int32} {p5 : Int32} {p6 : Int32} {x : (Int32 × AH)} (e : f_X11_beside h0 N p0 p1 p2 p3 p4 p5 p6 = some x) : kd h0 p0 = 12 + 1 := by
  unfold f_X11_beside at e
  by_cases hk : kd h0 p0 = 12 + 1
  · exact hk
  · rw [if_neg hk] at e
    cases e
theorem km_X11_beside : KM yX11_beside M_X11_beside 6 := ⟨in_tb 936 (by decide +kernel) rfl, in_tb 1 (by decide +kernel) rfl, by decide +kernel, rfl, rfl⟩
theorem hm_X11_beside : M_X11_beside.2.2.2.2.2.1 = 0 ∧ M_X11_beside.2.2.2.2.2.2.1 = 0 := ⟨rfl, rfl⟩
section
variable {l : Launch} {g : GG}
set_option maxRecDepth 100000 in
set_option maxHeartbeats 4000000 in
theorem t_X11_beside_b151 (h0 : AH) (N : Nat) (K39 : AH → Nat → Int32 → Int32 → Int32 → Int32 → Int32 → Int32 → Int32 → Int32 → Option (Int32 × AH)) (hK39 : ∀ (z : AH) (z0 : Nat) (z1 : Int32) (z2 : Int32) (z3 : Int32) (z4 : Int32) (z5 : Int32) (z6 : Int32) (z7 : Int32) (z8 : Int32), AO l g M_X11_beside false h0 39 [(0, .ref z0), (1, .int z1), (2, .int z2), (3, .int z3), (4, .int z4), (5, .int z5), (6, .int z6), (7, .int z7), (8, .int z8)] [] z 0 0 rSi (K39 z z0 z1 z2 z3 z4 z5 z6 z7 z8)) (h : AH) (x0 : Nat) (x1 : Int32) (x2 : Int32) (x3 : Int32) (x4 : Int32) (x5 : Int32) (x6 : Int32) (x7 : Int32) (x8 : Int32) : AO l g M_X11_beside false h0 151 [(0, .ref x0), (1, .int x1), (2, .int x2), (3, .int x3), (4, .int x4), (5, .int x5), (6, .int x6), (7, .int x7), (8, .int x8)] [] h 0 0 rSi (f_X11_beside_b151 N K39 h x0 x1 x2 x3 x4 x5 x6 x7 x8) := by
  unfold f_X11_beside_b151
  refine a_iinc (q := 8) (v := (x8 + 1)) (lc2 := [(8, .int (x8 + 1)), (0, .ref x0), (1, .int x1), (2, .int x2), (3, .int x3), (4, .int x4), (5, .int x5), (6, .int x6), (7, .int x7)]) dX11_beside_151 rfl rfl (by decide) rfl ?_
  refine a_goto 39 dX11_beside_154 (by decide) ?_
  refine a_pick (lc2 := [(0, .ref x0), (1, .int x1), (2, .int x2), (3, .int x3), (4, .int x4), (5, .int x5), (6, .int x6), (7, .int x7), (8, .int (x8 + 1))]) [1, 2, 3, 4, 5, 6, 7, 8, 0] rfl ?_
  exact hK39 h x0 x1 x2 x3 x4 x5 x6 x7 (x8 + 1)
set_option maxRecDepth 100000 in
set_option maxHeartbeats 4000000 in
theorem t_X11_beside_b139 (h0 : AH) (N : Nat) (K39 : AH → Nat → Int32 → Int32 → Int32 → Int32 → Int32 → Int32 → Int32 → Int32 → Option (Int32 × AH)) (hK39 : ∀ (z : AH) (z0 : Nat) (z1 : Int32) (z2 : Int32) (z3 : Int32) (z4 : Int32) (z5 : Int32) (z6 : Int32) (z7 : Int32) (z8 : Int32), AO l g M_X11_beside false h0 39 [(0, .ref z0), (1, .int z1), (2, .int z2), (3, .int z3), (4, .int z4), (5, .int z5), (6, .int z6), (7, .int z7), (8, .int z8)] [] z 0 0 rSi (K39 z z0 z1 z2 z3 z4 z5 z6 z7 z8)) (h : AH) (x0 : Nat) (x1 : Int32) (x2 : Int32) (x3 : Int32) (x4 : Int32) (x5 : Int32) (x6 : Int32) (x7 : Int32) (x8 : Int32) (s9 : Int32) : AO l g M_X11_beside false h0 139 [(0, .ref x0), (1, .int x1), (2, .int x2), (3, .int x3), (4, .int x4), (5, .int x5), (6, .int x6), (7, .int x7), (8, .int x8)] [.int s9] h 0 0 rSi (f_X11_beside_b139 N K39 h x0 x1 x2 x3 x4 x5 x6 x7 x8 s9) := by
  unfold f_X11_beside_b139
  refine a_istore (lc2 := [(11, .int s9), (0, .ref x0), (1, .int x1), (2, .int x2), (3, .int x3), (4, .int x4), (5, .int x5), (6, .int x6), (7, .int x7), (8, .int x8)]) dX11_beside_139 (by decide) rfl ?_
  refine a_iload dX11_beside_141 0 rfl ?_
  refine a_iload dX11_beside_143 7 rfl ?_
  refine a_icmp_ne 151 dX11_beside_145 (by decide) (fun c19 => ?_) (fun c19 => ?_)
  · refine a_iinc (q := 8) (v := (x7 + 1)) (lc2 := [(7, .int (x7 + 1)), (11, .int s9), (0, .ref x0), (1, .int x1), (2, .int x2), (3, .int x3), (4, .int x4), (5, .int x5), (6, .int x6), (8, .int x8)]) dX11_beside_148 rfl rfl (by decide) rfl ?_
    refine a_pick (lc2 := [(0, .ref x0), (1, .int x1), (2, .int x2), (3, .int x3), (4, .int x4), (5, .int x5), (6, .int x6), (7, .int (x7 + 1)), (8, .int x8)]) [2, 3, 4, 5, 6, 7, 8, 0, 9] rfl ?_
    exact t_X11_beside_b151 h0 N K39 hK39 h x0 x1 x2 x3 x4 x5 x6 (x7 + 1) x8
  · refine a_pick (lc2 := [(0, .ref x0), (1, .int x1), (2, .int x2), (3, .int x3), (4, .int x4), (5, .int x5), (6, .int x6), (7, .int x7), (8, .int x8)]) [1, 2, 3, 4, 5, 6, 7, 8, 9] rfl ?_
    exact t_X11_beside_b151 h0 N K39 hK39 h x0 x1 x2 x3 x4 x5 x6 x7 x8
set_option maxRecDepth 100000 in
set_option maxHeartbeats 4000000 in
theorem t_X11_beside_b109 (h0 : AH) (N : Nat) (K39 : AH → Nat → Int32 → Int32 → Int32 → Int32 → Int32 → Int32 → Int32 → Int32 → Option (Int32 × AH)) (hK39 : ∀ (z : AH) (z0 : Nat) (z1 : Int32) (z2 : Int32) (z3 : Int32) (z4 : Int32) (z5 : Int32) (z6 : Int32) (z7 : Int32) (z8 : Int32), AO l g M_X11_beside false h0 39 [(0, .ref z0), (1, .int z1), (2, .int z2), (3, .int z3), (4, .int z4), (5, .int z5), (6, .int z6), (7, .int z7), (8, .int z8)] [] z 0 0 rSi (K39 z z0 z1 z2 z3 z4 z5 z6 z7 z8)) (h : AH) (x0 : Nat) (x1 : Int32) (x2 : Int32) (x3 : Int32) (x4 : Int32) (x5 : Int32) (x6 : Int32) (x7 : Int32) (x8 : Int32) (x9 : Int32) (s10 : Int32) : AO l g M_X11_beside false h0 109 [(0, .ref x0), (1, .int x1), (2, .int x2), (3, .int x3), (4, .int x4), (5, .int x5), (6, .int x6), (7, .int x7), (8, .int x8), (9, .int x9)] [.int s10] h 0 0 rSi (f_X11_beside_b109 N K39 h x0 x1 x2 x3 x4 x5 x6 x7 x8 x9 s10) := by
  unfold f_X11_beside_b109
  refine a_istore (lc2 := [(10, .int s10), (0, .ref x0), (1, .int x1), (2, .int x2), (3, .int x3), (4, .int x4), (5, .int x5), (6, .int x6), (7, .int x7), (8, .int x8), (9, .int x9)]) dX11_beside_109 (by decide) rfl ?_
  refine a_iload dX11_beside_111 10 rfl ?_
  refine a_if_eq 129 dX11_beside_113 (by decide) (fun c16 => ?_) (fun c16 => ?_)
  · refine a_iload dX11_beside_129 0 rfl ?_
    refine a_if_eq 138 dX11_beside_131 (by decide) (fun c17 => ?_) (fun c17 => ?_)
    · refine a_iconst (v := 3) dX11_beside_138 (by decide) ?_
      refine a_pick (lc2 := [(0, .ref x0), (1, .int x1), (2, .int x2), (3, .int x3), (4, .int x4), (5, .int x5), (6, .int x6), (7, .int x7), (8, .int x8)]) [1, 2, 3, 4, 5, 6, 7, 8, 9] rfl ?_
      exact t_X11_beside_b139 h0 N K39 hK39 h x0 x1 x2 x3 x4 x5 x6 x7 x8 3
    · refine a_iconst (v := 1) dX11_beside_134 (by decide) ?_
      refine a_goto 139 dX11_beside_135 (by decide) ?_
      refine a_pick (lc2 := [(0, .ref x0), (1, .int x1), (2, .int x2), (3, .int x3), (4, .int x4), (5, .int x5), (6, .int x6), (7, .int x7), (8, .int x8)]) [1, 2, 3, 4, 5, 6, 7, 8, 9] rfl ?_
      exact t_X11_beside_b139 h0 N K39 hK39 h x0 x1 x2 x3 x4 x5 x6 x7 x8 1
  · refine a_iload dX11_beside_116 0 rfl ?_
    refine a_if_eq 125 dX11_beside_118 (by decide) (fun c18 => ?_) (fun c18 => ?_)
    · refine a_iconst (v := 0) dX11_beside_125 (by decide) ?_
      refine a_goto 139 dX11_beside_126 (by decide) ?_
      refine a_pick (lc2 := [(0, .ref x0), (1, .int x1), (2, .int x2), (3, .int x3), (4, .int x4), (5, .int x5), (6, .int x6), (7, .int x7), (8, .int x8)]) [1, 2, 3, 4, 5, 6, 7, 8, 9] rfl ?_
      exact t_X11_beside_b139 h0 N K39 hK39 h x0 x1 x2 x3 x4 x5 x6 x7 x8 0
    · refine a_iconst (v := 2) dX11_beside_121 (by decide) ?_
      refine a_goto 139 dX11_beside_122 (by decide) ?_
      refine a_pick (lc2 := [(0, .ref x0), (1, .int x1), (2, .int x2), (3, .int x3), (4, .int x4), (5, .int x5), (6, .int x6), (7, .int x7), (8, .int x8)]) [1, 2, 3, 4, 5, 6, 7, 8, 9] rfl ?_
      exact t_X11_beside_b139 h0 N K39 hK39 h x0 x1 x2 x3 x4 x5 x6 x7 x8 2
set_option maxRecDepth 100000 in
set_option maxHeartbeats 4000000 in
theorem t_X11_beside_b83 (h0 : AH) (N : Nat) (K39 : AH → Nat → Int32 → Int32 → Int32 → Int32 → Int32 → Int32 → Int32 → Int32 → Option (Int32 × AH)) (hK39 : ∀ (z : AH) (z0 : Nat) (z1 : Int32) (z2 : Int32) (z3 : Int32) (z4 : Int32) (z5 : Int32) (z6 : Int32) (z7 : Int32) (z8 : Int32), AO l g M_X11_beside false h0 39 [(0, .ref z0), (1, .int z1), (2, .int z2), (3, .int z3), (4, .int z4), (5, .int z5), (6, .int z6), (7, .int z7), (8, .int z8)] [] z 0 0 rSi (K39 z z0 z1 z2 z3 z4 z5 z6 z7 z8)) (h : AH) (x0 : Nat) (x1 : Int32) (x2 : Int32) (x3 : Int32) (x4 : Int32) (x5 : Int32) (x6 : Int32) (x7 : Int32) (x8 : Int32) (s9 : Int32) : AO l g M_X11_beside false h0 83 [(0, .ref x0), (1, .int x1), (2, .int x2), (3, .int x3), (4, .int x4), (5, .int x5), (6, .int x6), (7, .int x7), (8, .int x8)] [.int s9] h 0 0 rSi (f_X11_beside_b83 N K39 h x0 x1 x2 x3 x4 x5 x6 x7 x8 s9) := by
  unfold f_X11_beside_b83
  refine a_istore (lc2 := [(9, .int s9), (0, .ref x0), (1, .int x1), (2, .int x2), (3, .int x3), (4, .int x4), (5, .int x5), (6, .int x6), (7, .int x7), (8, .int x8)]) dX11_beside_83 (by decide) rfl ?_
  refine a_aload_n dX11_beside_85 rfl 1 rfl ?_
  refine a_iload_n dX11_beside_86 rfl 3 rfl ?_
  refine a_iload_n dX11_beside_87 rfl 4 rfl ?_
  refine a_iload dX11_beside_88 9 rfl ?_
  refine a_iload dX11_beside_90 5 rfl ?_
  refine a_iload dX11_beside_92 6 rfl ?_
  refine a_aload_n dX11_beside_94 rfl 1 rfl ?_
  refine a_cV_Pi (r := x0) (ci := 12) (as := []) (st := [.int x5, .int x4, .int x8, .int x3, .int x2, .ref x0]) dX11_beside_95 (c_X11_now l g h x0) rfl km_X11_now (hm_X11_now) rfl (by decide) rfl (fun _ ee => g_X11_now ee) w_methodLink_RainCover_179 w_instanceMethod_RainCover_now___I w_selects_RainCover_RainCover_now___I_RainCover_now___I ⟨⟨by decide, by decide⟩, ⟨by decide, by decide⟩⟩ (Nat.le_of_ble_eq_true rfl) (fun v13 => ?_)
  refine a_cV_Si (r := x0) (ci := 12) (as := [.int x2, .int x3, .int x8, .int x4, .int x5, .int v13]) (st := []) dX11_beside_98 (c_X11_payOn l g h N x0 x2 x3 x8 x4 x5 v13) rfl km_X11_payOn (hm_X11_payOn) rfl (by decide) rfl (fun _ ee => g_X11_payOn ee) w_methodLink_RainCover_222 w_instanceMethod_RainCover_payOn__IIIIII_I w_selects_RainCover_RainCover_payOn__IIIIII_I_RainCover_payOn__IIIIII_I ⟨⟨by decide, by decide⟩, ⟨by decide, by decide⟩⟩ (Nat.le_of_ble_eq_true rfl) (fun q14 => ?_)
  refine a_if_le 108 dX11_beside_101 (by decide) (fun c15 => ?_) (fun c15 => ?_)
  · refine a_iconst (v := 0) dX11_beside_108 (by decide) ?_
    refine a_pick (lc2 := [(0, .ref x0), (1, .int x1), (2, .int x2), (3, .int x3), (4, .int x4), (5, .int x5), (6, .int x6), (7, .int x7), (8, .int x8), (9, .int s9)]) [1, 2, 3, 4, 5, 6, 7, 8, 9, 0] rfl ?_
    exact t_X11_beside_b109 h0 N K39 hK39 q14.2 x0 x1 x2 x3 x4 x5 x6 x7 x8 s9 0
  · refine a_iconst (v := 1) dX11_beside_104 (by decide) ?_
    refine a_goto 109 dX11_beside_105 (by decide) ?_
    refine a_pick (lc2 := [(0, .ref x0), (1, .int x1), (2, .int x2), (3, .int x3), (4, .int x4), (5, .int x5), (6, .int x6), (7, .int x7), (8, .int x8), (9, .int s9)]) [1, 2, 3, 4, 5, 6, 7, 8, 9, 0] rfl ?_
    exact t_X11_beside_b109 h0 N K39 hK39 q14.2 x0 x1 x2 x3 x4 x5 x6 x7 x8 s9 1
set_option maxRecDepth 100000 in
set_option maxHeartbeats 4000000 in
theorem t_X11_beside_b39_body (h0 : AH) (N : Nat) (K39 : AH → Nat → Int32 → Int32 → Int32 → Int32 → Int32 → Int32 → Int32 → Int32 → Option (Int32 × AH)) (hK39 : ∀ (z : AH) (z0 : Nat) (z1 : Int32) (z2 : Int32) (z3 : Int32) (z4 : Int32) (z5 : Int32) (z6 : Int32) (z7 : Int32) (z8 : Int32), AO l g M_X11_beside false h0 39 [(0, .ref z0), (1, .int z1), (2, .int z2), (3, .int z3), (4, .int z4), (5, .int z5), (6, .int z6), (7, .int z7), (8, .int z8)] [] z 0 0 rSi (K39 z z0 z1 z2 z3 z4 z5 z6 z7 z8)) (h : AH) (x0 : Nat) (x1 : Int32) (x2 : Int32) (x3 : Int32) (x4 : Int32) (x5 : Int32) (x6 : Int32) (x7 : Int32) (x8 : Int32) : AO l g M_X11_beside false h0 39 [(0, .ref x0), (1, .int x1), (2, .int x2), (3, .int x3), (4, .int x4), (5, .int x5), (6, .int x6), (7, .int x7), (8, .int x8)] [] h 0 0 rSi (f_X11_beside_b39_body N K39 h x0 x1 x2 x3 x4 x5 x6 x7 x8) := by
  unfold f_X11_beside_b39_body
  refine a_iload dX11_beside_39 8 rfl ?_
  refine a_bipush (v := 16) dX11_beside_41 (by decide) ?_
  refine a_icmp_ge 157 dX11_beside_43 (by decide) (fun c7 => ?_) (fun c7 => ?_)
  · refine a_iload dX11_beside_157 7 rfl ?_
    exact a_iret dX11_beside_159 rfl rfl (by decide) (by decide)
  · refine a_aload_n dX11_beside_46 rfl 0 rfl ?_
    refine a_iload_n dX11_beside_47 rfl 3 rfl ?_
    refine a_iload dX11_beside_48 8 rfl ?_
    refine a_cV_Pi (r := x0) (ci := 12) (as := [.int x3, .int x8]) (st := []) dX11_beside_50 (c_X11_isKnown l g h N x0 x3 x8) rfl km_X11_isKnown (hm_X11_isKnown) rfl (by decide) rfl (fun _ ee => g_X11_isKnown ee) w_methodLink_RainCover_387 w_instanceMethod_RainCover_isKnown__II_Z w_selects_RainCover_RainCover_isKnown__II_Z_RainCover_isKnown__II_Z ⟨⟨by decide, by decide⟩, ⟨by decide, by decide⟩⟩ (Nat.le_of_ble_eq_true rfl) (fun v8 => ?_)
    refine a_if_ne 59 dX11_beside_53 (by decide) (fun c9 => ?_) (fun c9 => ?_)
    · refine a_goto 151 dX11_beside_56 (by decide) ?_
      exact t_X11_beside_b151 h0 N K39 hK39 h x0 x1 x2 x3 x4 x5 x6 x7 x8
    · refine a_aload_n dX11_beside_59 rfl 0 rfl ?_
      refine a_iload_n dX11_beside_60 rfl 1 rfl ?_
      refine a_iload_n dX11_beside_61 rfl 3 rfl ?_
      refine a_iload dX11_beside_62 8 rfl ?_
      refine a_iload dX11_beside_64 4 rfl ?_
      refine a_iload dX11_beside_66 5 rfl ?_
      refine a_aload_n dX11_beside_68 rfl 0 rfl ?_
      refine a_cV_Pi (r := x0) (ci := 12) (as := []) (st := [.int x5, .int x4, .int x8, .int x3, .int x1, .ref x0]) dX11_beside_69 (c_X11_now l g h x0) rfl km_X11_now (hm_X11_now) rfl (by decide) rfl (fun _ ee => g_X11_now ee) w_methodLink_RainCover_179 w_instanceMethod_RainCover_now___I w_selects_RainCover_RainCover_now___I_RainCover_now___I ⟨⟨by decide, by decide⟩, ⟨by decide, by decide⟩⟩ (Nat.le_of_ble_eq_true rfl) (fun v10 => ?_)
      refine a_cV_Si (r := x0) (ci := 12) (as := [.int x1, .int x3, .int x8, .int x4, .int x5, .int v10]) (st := []) dX11_beside_72 (c_X11_payOn l g h N x0 x1 x3 x8 x4 x5 v10) rfl km_X11_payOn (hm_X11_payOn) rfl (by decide) rfl (fun _ ee => g_X11_payOn ee) w_methodLink_RainCover_222 w_instanceMethod_RainCover_payOn__IIIIII_I w_selects_RainCover_RainCover_payOn__IIIIII_I_RainCover_payOn__IIIIII_I ⟨⟨by decide, by decide⟩, ⟨by decide, by decide⟩⟩ (Nat.le_of_ble_eq_true rfl) (fun q11 => ?_)
      refine a_if_le 82 dX11_beside_75 (by decide) (fun c12 => ?_) (fun c12 => ?_)
      · refine a_iconst (v := 0) dX11_beside_82 (by decide) ?_
        exact t_X11_beside_b83 h0 N K39 hK39 q11.2 x0 x1 x2 x3 x4 x5 x6 x7 x8 0
      · refine a_iconst (v := 1) dX11_beside_78 (by decide) ?_
        refine a_goto 83 dX11_beside_79 (by decide) ?_
        exact t_X11_beside_b83 h0 N K39 hK39 q11.2 x0 x1 x2 x3 x4 x5 x6 x7 x8 1
set_option maxRecDepth 100000 in
set_option maxHeartbeats 4000000 in
theorem t_X11_beside_b39 (h0 : AH) (N : Nat) : ∀ (n : Nat) (h : AH) (x0 : Nat) (x1 : Int32) (x2 : Int32) (x3 : Int32) (x4 : Int32) (x5 : Int32) (x6 : Int32) (x7 : Int32) (x8 : Int32) , AO l g M_X11_beside false h0 39 [(0, .ref x0), (1, .int x1), (2, .int x2), (3, .int x3), (4, .int x4), (5, .int x5), (6, .int x6), (7, .int x7), (8, .int x8)] [] h 0 0 rSi (f_X11_beside_b39 N  n h x0 x1 x2 x3 x4 x5 x6 x7 x8) := by
  intro n
  induction n with
  | zero => intro h x0 x1 x2 x3 x4 x5 x6 x7 x8; exact a_eq rfl a_none
  | succ n ih => intro h x0 x1 x2 x3 x4 x5 x6 x7 x8; exact a_eq rfl (t_X11_beside_b39_body h0 N  (f_X11_beside_b39 N  n) ih h x0 x1 x2 x3 x4 x5 x6 x7 x8)
end
set_option maxRecDepth 100000 in
set_option maxHeartbeats 4000000 in
theorem c_X11_beside (l : Launch) (g : GG) (h0 : AH) (N : Nat) (p0 : Nat) (p1 : Int32) (p2 : Int32) (p3 : Int32) (p4 : Int32) (p5 : Int32) (p6 : Int32) : CN l g yX11_beside M_X11_beside false [.ref p0, .int p1, .int p2, .int p3, .int p4, .int p5, .int p6] h0 rSi (f_X11_beside h0 N p0 p1 p2 p3 p4 p5 p6) := by
  refine CN.of (by decide) rfl (fun hh => by first | rfl | cases hh) (Nat.le_of_ble_eq_true rfl) ?_
  unfold f_X11_beside
  refine a_gd (fun hkd => ?_)
  refine a_aload_n dX11_beside_0 rfl 0 rfl ?_
  refine a_iload_n dX11_beside_1 rfl 1 rfl ?_
  refine a_cV_Pi (r := p0) (ci := 12) (as := [.int p1]) (st := []) dX11_beside_2 (c_X11_isTerm l g h0 p0 p1) rfl km_X11_isTerm (hm_X11_isTerm) rfl (by decide) rfl (fun _ ee => g_X11_isTerm ee) w_methodLink_RainCover_219 w_instanceMethod_RainCover_isTerm__I_Z w_selects_RainCover_RainCover_isTerm__I_Z_RainCover_isTerm__I_Z ⟨⟨by decide, by decide⟩, ⟨by decide, by decide⟩⟩ (Nat.le_of_ble_eq_true rfl) (fun v1 => ?_)
  refine a_if_eq 31 dX11_beside_5 (by decide) (fun c2 => ?_) (fun c2 => ?_)
  · refine a_iconst (v := (-1)) dX11_beside_31 (by decide) ?_
    exact a_iret dX11_beside_32 rfl rfl (by decide) (by decide)
  · refine a_aload_n dX11_beside_8 rfl 0 rfl ?_
    refine a_iload_n dX11_beside_9 rfl 2 rfl ?_
    refine a_iload_n dX11_beside_10 rfl 3 rfl ?_
    refine a_iload dX11_beside_11 4 rfl ?_
    refine a_iload dX11_beside_13 5 rfl ?_
    refine a_cV_Pi (r := p0) (ci := 12) (as := [.int p2, .int p3, .int p4, .int p5]) (st := []) dX11_beside_15 (c_X11_isOffer l g h0 p0 p2 p3 p4 p5) rfl km_X11_isOffer (hm_X11_isOffer) rfl (by decide) rfl (fun _ ee => g_X11_isOffer ee) w_methodLink_RainCover_368 w_instanceMethod_RainCover_isOffer__IIII_Z w_selects_RainCover_RainCover_isOffer__IIII_Z_RainCover_isOffer__IIII_Z ⟨⟨by decide, by decide⟩, ⟨by decide, by decide⟩⟩ (Nat.le_of_ble_eq_true rfl) (fun v3 => ?_)
    refine a_if_eq 31 dX11_beside_18 (by decide) (fun c4 => ?_) (fun c4 => ?_)
    · refine a_iconst (v := (-1)) dX11_beside_31 (by decide) ?_
      exact a_iret dX11_beside_32 rfl rfl (by decide) (by decide)
    · refine a_iload dX11_beside_21 6 rfl ?_
      refine a_iconst (v := 0) dX11_beside_23 (by decide) ?_
      refine a_iconst (v := 3) dX11_beside_24 (by decide) ?_
      refine a_cS_Pi (as := [.int p6, .int 0, .int 3]) (st := []) dX11_beside_25 (c_X11_within l g h0 p6 0 3) rfl km_X11_within (hm_X11_within) w_methodLink_RainCover_120 w_static_RainCover_within__III_Z ⟨⟨by decide, by decide⟩, ⟨by decide, by decide⟩⟩ (Nat.le_of_ble_eq_true rfl) (fun v5 => ?_)
      refine a_if_ne 33 dX11_beside_28 (by decide) (fun c6 => ?_) (fun c6 => ?_)
      · refine a_iconst (v := (-1)) dX11_beside_31 (by decide) ?_
        exact a_iret dX11_beside_32 rfl rfl (by decide) (by decide)
      · refine a_iconst (v := 0) dX11_beside_33 (by decide) ?_
        refine a_istore (lc2 := [(7, .int 0), (0, .ref p0), (1, .int p1), (2, .int p2), (3, .int p3), (4, .int p4), (5, .int p5), (6, .int p6)]) dX11_beside_34 (by decide) rfl ?_
        refine a_iconst (v := 0) dX11_beside_36 (by decide) ?_
        refine a_istore (lc2 := [(8, .int 0), (7, .int 0), (0, .ref p0), (1, .int p1), (2, .int p2), (3, .int p3), (4, .int p4), (5, .int p5), (6, .int p6)]) dX11_beside_37 (by decide) rfl ?_
        refine a_pick (lc2 := [(0, .ref p0), (1, .int p1), (2, .int p2), (3, .int p3), (4, .int p4), (5, .int p5), (6, .int p6), (7, .int 0), (8, .int 0)]) [2, 3, 4, 5, 6, 7, 8, 1, 0] rfl ?_
        exact t_X11_beside_b39 h0 N N h0 p0 p1 p2 p3 p4 p5 p6 0 0
theorem dX11_gatherSpliced_0 : decode cX11_gatherSpliced 0 = .ok (.bipush 8, 2) := by decide +kernel
theorem dX11_gatherSpliced_2 : decode cX11_gatherSpliced 2 = .ok (.aload_n 0, 1) := by decide +kernel
theorem dX11_gatherSpliced_3 : decode cX11_gatherSpliced 3 = .ok (.getfield 12, 3) := by decide +kernel
theorem dX11_gatherSpliced_6 : decode cX11_gatherSpliced 6 = .ok (.iload_n 1, 1) := by decide +kernel
theorem dX11_gatherSpliced_7 : decode cX11_gatherSpliced 7 = .ok (.invokevirtual 124, 3) := by decide +kernel
theorem dX11_gatherSpliced_10 : decode cX11_gatherSpliced 10 = .ok (.checkcast 108, 3) := by decide +kernel
theorem dX11_gatherSpliced_13 : decode cX11_gatherSpliced 13 = .ok (.getfield 182, 3) := by decide +kernel
theorem dX11_gatherSpliced_16 : decode cX11_gatherSpliced 16 = .ok (.bipush 25, 2) := by decide +kernel
theorem dX11_gatherSpliced_18 : decode cX11_gatherSpliced 18 = .ok (.idiv, 1) := by decide +kernel
theorem dX11_gatherSpliced_19 : decode cX11_gatherSpliced 19 = .ok (.iadd, 1) := by decide +kernel
theorem dX11_gatherSpliced_20 : decode cX11_gatherSpliced 20 = .ok (.istore 5, 2) := by decide +kernel
theorem dX11_gatherSpliced_22 : decode cX11_gatherSpliced 22 = .ok (.iconst 0, 1) := by decide +kernel
theorem dX11_gatherSpliced_23 : decode cX11_gatherSpliced 23 = .ok (.istore 6, 2) := by decide +kernel
theorem dX11_gatherSpliced_25 : decode cX11_gatherSpliced 25 = .ok (.iload 6, 2) := by decide +kernel
theorem dX11_gatherSpliced_27 : decode cX11_gatherSpliced 27 = .ok (.bipush 12, 2) := by decide +kernel
theorem dX11_gatherSpliced_29 : decode cX11_gatherSpliced 29 = .ok (.if_icmp .ge 67, 3) := by decide +kernel
theorem dX11_gatherSpliced_32 : decode cX11_gatherSpliced 32 = .ok (.iload 6, 2) := by decide +kernel
theorem dX11_gatherSpliced_34 : decode cX11_gatherSpliced 34 = .ok (.iload_n 3, 1) := by decide +kernel
theorem dX11_gatherSpliced_35 : decode cX11_gatherSpliced 35 = .ok (.if_icmp .ge 7, 3) := by decide +kernel
theorem dX11_gatherSpliced_38 : decode cX11_gatherSpliced 38 = .ok (.iload_n 2, 1) := by decide +kernel
theorem dX11_gatherSpliced_39 : decode cX11_gatherSpliced 39 = .ok (.goto 5, 3) := by decide +kernel
theorem dX11_gatherSpliced_42 : decode cX11_gatherSpliced 42 = .ok (.iload 4, 2) := by decide +kernel
theorem dX11_gatherSpliced_44 : decode cX11_gatherSpliced 44 = .ok (.istore 7, 2) := by decide +kernel
theorem dX11_gatherSpliced_46 : decode cX11_gatherSpliced 46 = .ok (.aload_n 0, 1) := by decide +kernel
theorem dX11_gatherSpliced_47 : decode cX11_gatherSpliced 47 = .ok (.getfield 84, 3) := by decide +kernel
theorem dX11_gatherSpliced_50 : decode cX11_gatherSpliced 50 = .ok (.iload 6, 2) := by decide +kernel
theorem dX11_gatherSpliced_52 : decode cX11_gatherSpliced 52 = .ok (.aload_n 0, 1) := by decide +kernel
theorem dX11_gatherSpliced_53 : decode cX11_gatherSpliced 53 = .ok (.iload_n 1, 1) := by decide +kernel
theorem dX11_gatherSpliced_54 : decode cX11_gatherSpliced 54 = .ok (.iload 7, 2) := by decide +kernel
theorem dX11_gatherSpliced_56 : decode cX11_gatherSpliced 56 = .ok (.iload 6, 2) := by decide +kernel
theorem dX11_gatherSpliced_58 : decode cX11_gatherSpliced 58 = .ok (.aload_n 0, 1) := by decide +kernel
theorem dX11_gatherSpliced_59 : decode cX11_gatherSpliced 59 = .ok (.invokevirtual 179, 3) := by decide +kernel
theorem dX11_gatherSpliced_62 : decode cX11_gatherSpliced 62 = .ok (.invokevirtual 169, 3) := by decide +kernel
theorem dX11_gatherSpliced_65 : decode cX11_gatherSpliced 65 = .ok (.iastore, 1) := by decide +kernel
theorem dX11_gatherSpliced_66 : decode cX11_gatherSpliced 66 = .ok (.aload_n 0, 1) := by decide +kernel
theorem dX11_gatherSpliced_67 : decode cX11_gatherSpliced 67 = .ok (.getfield 87, 3) := by decide +kernel
theorem dX11_gatherSpliced_70 : decode cX11_gatherSpliced 70 = .ok (.iload 6, 2) := by decide +kernel
theorem dX11_gatherSpliced_72 : decode cX11_gatherSpliced 72 = .ok (.aload_n 0, 1) := by decide +kernel
theorem dX11_gatherSpliced_73 : decode cX11_gatherSpliced 73 = .ok (.getfield 30, 3) := by decide +kernel
theorem dX11_gatherSpliced_76 : decode cX11_gatherSpliced 76 = .ok (.iload 5, 2) := by decide +kernel
theorem dX11_gatherSpliced_78 : decode cX11_gatherSpliced 78 = .ok (.iload 7, 2) := by decide +kernel
theorem dX11_gatherSpliced_80 : decode cX11_gatherSpliced 80 = .ok (.iload 6, 2) := by decide +kernel
theorem dX11_gatherSpliced_82 : decode cX11_gatherSpliced 82 = .ok (.aload_n 0, 1) := by decide +kernel
theorem dX11_gatherSpliced_83 : decode cX11_gatherSpliced 83 = .ok (.invokevirtual 179, 3) := by decide +kernel
theorem dX11_gatherSpliced_86 : decode cX11_gatherSpliced 86 = .ok (.invokevirtual 147, 3) := by decide +kernel
theorem dX11_gatherSpliced_89 : decode cX11_gatherSpliced 89 = .ok (.iastore, 1) := by decide +kernel
theorem dX11_gatherSpliced_90 : decode cX11_gatherSpliced 90 = .ok (.iinc 6 1, 3) := by decide +kernel
theorem dX11_gatherSpliced_93 : decode cX11_gatherSpliced 93 = .ok (.goto (-68), 3) := by decide +kernel
theorem dX11_gatherSpliced_96 : decode cX11_gatherSpliced 96 = .ok (.return_, 1) := by decide +kernel
abbrev M_X11_gatherSpliced : MI := (RX11, cX11_gatherSpliced, 8, none, ({ frames := 5, cells := 0, slots := 0, locals := 120 } : Room), 0, 0, false)
def f_X11_gatherSpliced_b44 (N : Nat) (K25 : AH → Nat → Int32 → Int32 → Int32 → Int32 → Int32 → Int32 → Option AH) (h : AH) (x0 : Nat) (x1 : Int32) (x2 : Int32) (x3 : Int32) (x4 : Int32) (x5 : Int32) (x6 : Int32) (s7 : Int32) : Option AH := (xgr h x0 12 16).bind fun v7 => (f_X11_now h x0).bind fun v8 => (f_X11_fill h N x0 x1 s7 x6 v8).bind fun v9 => (xis h v7 x6 v9).bind fun h10 => (xgr h10 x0 12 17).bind fun v11 => (xgr h10 x0 12 4).bind fun v12 => (f_X11_now h10 x0).bind fun v13 => (f_X9_asKnown h10 N v12 x5 s7 x6 v13).bind fun v14 => (xis h10 v11 x6 v14).bind fun h15 => K25 h15 x0 x1 x2 x3 x4 x5 (x6 + 1)
def f_X11_gatherSpliced_b25_body (N : Nat) (K25 : AH → Nat → Int32 → Int32 → Int32 → Int32 → Int32 → Int32 → Option AH) (h : AH) (x0 : Nat) (x1 : Int32) (x2 : Int32) (x3 : Int32) (x4 : Int32) (x5 : Int32) (x6 : Int32) : Option AH := (if 12 ≤ x6 then some h else (if x3 ≤ x6 then f_X11_gatherSpliced_b44 N K25 h x0 x1 x2 x3 x4 x5 x6 x4 else f_X11_gatherSpliced_b44 N K25 h x0 x1 x2 x3 x4 x5 x6 x2))
def f_X11_gatherSpliced_b25 (N : Nat) : Nat → AH → Nat → Int32 → Int32 → Int32 → Int32 → Int32 → Int32 → Option AH
  | 0, _, _, _, _, _, _, _, _ => none
  | n + 1, h, x0, x1, x2, x3, x4, x5, x6 => f_X11_gatherSpliced_b25_body N  (f_X11_gatherSpliced_b25 N  n) h x0 x1 x2 x3 x4 x5 x6
def f_X11_gatherSpliced (h0 : AH) (N : Nat) (p0 : Nat) (p1 : Int32) (p2 : Int32) (p3 : Int32) (p4 : Int32) : Option AH := if kd h0 p0 = 12 + 1 then (xgr h0 p0 12 0).bind fun v1 => (f_Jx4a65c_get_915e3 h0 v1 p1).bind fun v2 => (xcc h0 v2 4).bind fun _ => (xgi h0 v2 4 0).bind fun v3 => (if 25 = 0 then none else f_X11_gatherSpliced_b25 N N h0 p0 p1 p2 p3 p4 (8 + (v3 / 25)) 0) else none
theorem g_X11_gatherSpliced {h0 : AH} {N : Nat} {p0 : Nat} {p1 : Int32} {p2 : Int32} {p3 : Int32} {p4 : Int32} {x : AH} (e : f_X11_gatherSpliced h0 N p0 p1 p2 p3 p4 = some x) : kd h0 p0 = 12 + 1 := by
  unfold f_X11_gatherSpliced at e
  by_cases hk : kd h0 p0 = 12 + 1
  · exact hk
  · rw [if_neg hk] at e
    cases e
theorem km_X11_gatherSpliced : KM yX11_gatherSpliced M_X11_gatherSpliced 4 := ⟨in_tb 944 (by decide +kernel) rfl, in_tb 1 (by decide +kernel) rfl, by decide +kernel, rfl, rfl⟩
theorem hm_X11_gatherSpliced : M_X11_gatherSpliced.2.2.2.2.2.1 = 0 ∧ M_X11_gatherSpliced.2.2.2.2.2.2.1 = 0 := ⟨rfl, rfl⟩
section
variable {l : Launch} {g : GG}
set_option maxRecDepth 100000 in
set_option maxHeartbeats 4000000 in
theorem t_X11_gatherSpliced_b44 (h0 : AH) (N : Nat) (K25 : AH → Nat → Int32 → Int32 → Int32 → Int32 → Int32 → Int32 → Option AH) (hK25 : ∀ (z : AH) (z0 : Nat) (z1 : Int32) (z2 : Int32) (z3 : Int32) (z4 : Int32) (z5 : Int32) (z6 : Int32), AO l g M_X11_gatherSpliced false h0 25 [(0, .ref z0), (1, .int z1), (2, .int z2), (3, .int z3), (4, .int z4), (5, .int z5), (6, .int z6)] [] z 0 0 rSv (K25 z z0 z1 z2 z3 z4 z5 z6)) (h : AH) (x0 : Nat) (x1 : Int32) (x2 : Int32) (x3 : Int32) (x4 : Int32) (x5 : Int32) (x6 : Int32) (s7 : Int32) : AO l g M_X11_gatherSpliced false h0 44 [(0, .ref x0), (1, .int x1), (2, .int x2), (3, .int x3), (4, .int x4), (5, .int x5), (6, .int x6)] [.int s7] h 0 0 rSv (f_X11_gatherSpliced_b44 N K25 h x0 x1 x2 x3 x4 x5 x6 s7) := by
  unfold f_X11_gatherSpliced_b44
  refine a_istore (lc2 := [(7, .int s7), (0, .ref x0), (1, .int x1), (2, .int x2), (3, .int x3), (4, .int x4), (5, .int x5), (6, .int x6)]) dX11_gatherSpliced_44 (by decide) rfl ?_
  refine a_aload_n dX11_gatherSpliced_46 rfl 1 rfl ?_
  refine a_getr kc12 16 dX11_gatherSpliced_47 (by decide) rfl w_fieldLink_RainCover_84 (fun v7 => ?_)
  refine a_iload dX11_gatherSpliced_50 7 rfl ?_
  refine a_aload_n dX11_gatherSpliced_52 rfl 1 rfl ?_
  refine a_iload_n dX11_gatherSpliced_53 rfl 2 rfl ?_
  refine a_iload dX11_gatherSpliced_54 0 rfl ?_
  refine a_iload dX11_gatherSpliced_56 7 rfl ?_
  refine a_aload_n dX11_gatherSpliced_58 rfl 1 rfl ?_
  refine a_cV_Pi (r := x0) (ci := 12) (as := []) (st := [.int x6, .int s7, .int x1, .ref x0, .int x6, .ref v7]) dX11_gatherSpliced_59 (c_X11_now l g h x0) rfl km_X11_now (hm_X11_now) rfl (by decide) rfl (fun _ ee => g_X11_now ee) w_methodLink_RainCover_179 w_instanceMethod_RainCover_now___I w_selects_RainCover_RainCover_now___I_RainCover_now___I ⟨⟨by decide, by decide⟩, ⟨by decide, by decide⟩⟩ (Nat.le_of_ble_eq_true rfl) (fun v8 => ?_)
  refine a_cV_Pi (r := x0) (ci := 12) (as := [.int x1, .int s7, .int x6, .int v8]) (st := [.int x6, .ref v7]) dX11_gatherSpliced_62 (c_X11_fill l g h N x0 x1 s7 x6 v8) rfl km_X11_fill (hm_X11_fill) rfl (by decide) rfl (fun _ ee => g_X11_fill ee) w_methodLink_RainCover_169 w_instanceMethod_RainCover_fill__IIII_I w_selects_RainCover_RainCover_fill__IIII_I_RainCover_fill__IIII_I ⟨⟨by decide, by decide⟩, ⟨by decide, by decide⟩⟩ (Nat.le_of_ble_eq_true rfl) (fun v9 => ?_)
  refine a_iast dX11_gatherSpliced_65 (fun h10 => ?_)
  refine a_aload_n dX11_gatherSpliced_66 rfl 1 rfl ?_
  refine a_getr kc12 17 dX11_gatherSpliced_67 (by decide) rfl w_fieldLink_RainCover_87 (fun v11 => ?_)
  refine a_iload dX11_gatherSpliced_70 7 rfl ?_
  refine a_aload_n dX11_gatherSpliced_72 rfl 1 rfl ?_
  refine a_getr kc12 4 dX11_gatherSpliced_73 (by decide) rfl w_fieldLink_RainCover_30 (fun v12 => ?_)
  refine a_iload dX11_gatherSpliced_76 6 rfl ?_
  refine a_iload dX11_gatherSpliced_78 0 rfl ?_
  refine a_iload dX11_gatherSpliced_80 7 rfl ?_
  refine a_aload_n dX11_gatherSpliced_82 rfl 1 rfl ?_
  refine a_cV_Pi (r := x0) (ci := 12) (as := []) (st := [.int x6, .int s7, .int x5, .ref v12, .int x6, .ref v11]) dX11_gatherSpliced_83 (c_X11_now l g h10 x0) rfl km_X11_now (hm_X11_now) rfl (by decide) rfl (fun _ ee => g_X11_now ee) w_methodLink_RainCover_179 w_instanceMethod_RainCover_now___I w_selects_RainCover_RainCover_now___I_RainCover_now___I ⟨⟨by decide, by decide⟩, ⟨by decide, by decide⟩⟩ (Nat.le_of_ble_eq_true rfl) (fun v13 => ?_)
  refine a_cV_Pi (r := v12) (ci := 10) (as := [.int x5, .int s7, .int x6, .int v13]) (st := [.int x6, .ref v11]) dX11_gatherSpliced_86 (c_X9_asKnown l g h10 N v12 x5 s7 x6 v13) rfl km_X9_asKnown (hm_X9_asKnown) rfl (by decide) rfl (fun _ ee => g_X9_asKnown ee) w_methodLink_RainCover_147 w_instanceMethod_RainCover_Tellings_asKnown__IIII_I w_selects_RainCover_Tellings_RainCover_Tellings_asKnown__IIII_I_RainCover_Tellings_asKnown__IIII_I ⟨⟨by decide, by decide⟩, ⟨by decide, by decide⟩⟩ (Nat.le_of_ble_eq_true rfl) (fun v14 => ?_)
  refine a_iast dX11_gatherSpliced_89 (fun h15 => ?_)
  refine a_iinc (q := 7) (v := (x6 + 1)) (lc2 := [(6, .int (x6 + 1)), (7, .int s7), (0, .ref x0), (1, .int x1), (2, .int x2), (3, .int x3), (4, .int x4), (5, .int x5)]) dX11_gatherSpliced_90 rfl rfl (by decide) rfl ?_
  refine a_goto 25 dX11_gatherSpliced_93 (by decide) ?_
  refine a_pick (lc2 := [(0, .ref x0), (1, .int x1), (2, .int x2), (3, .int x3), (4, .int x4), (5, .int x5), (6, .int (x6 + 1))]) [2, 3, 4, 5, 6, 7, 0] rfl ?_
  exact hK25 h15 x0 x1 x2 x3 x4 x5 (x6 + 1)
set_option maxRecDepth 100000 in
set_option maxHeartbeats 4000000 in
theorem t_X11_gatherSpliced_b25_body (h0 : AH) (N : Nat) (K25 : AH → Nat → Int32 → Int32 → Int32 → Int32 → Int32 → Int32 → Option AH) (hK25 : ∀ (z : AH) (z0 : Nat) (z1 : Int32) (z2 : Int32) (z3 : Int32) (z4 : Int32) (z5 : Int32) (z6 : Int32), AO l g M_X11_gatherSpliced false h0 25 [(0, .ref z0), (1, .int z1), (2, .int z2), (3, .int z3), (4, .int z4), (5, .int z5), (6, .int z6)] [] z 0 0 rSv (K25 z z0 z1 z2 z3 z4 z5 z6)) (h : AH) (x0 : Nat) (x1 : Int32) (x2 : Int32) (x3 : Int32) (x4 : Int32) (x5 : Int32) (x6 : Int32) : AO l g M_X11_gatherSpliced false h0 25 [(0, .ref x0), (1, .int x1), (2, .int x2), (3, .int x3), (4, .int x4), (5, .int x5), (6, .int x6)] [] h 0 0 rSv (f_X11_gatherSpliced_b25_body N K25 h x0 x1 x2 x3 x4 x5 x6) := by
  unfold f_X11_gatherSpliced_b25_body
  refine a_iload dX11_gatherSpliced_25 6 rfl ?_
  refine a_bipush (v := 12) dX11_gatherSpliced_27 (by decide) ?_
  refine a_icmp_ge 96 dX11_gatherSpliced_29 (by decide) (fun c5 => ?_) (fun c5 => ?_)
  · exact a_vret dX11_gatherSpliced_96 rfl rfl (by decide) (by decide)
  · refine a_iload dX11_gatherSpliced_32 6 rfl ?_
    refine a_iload_n dX11_gatherSpliced_34 rfl 3 rfl ?_
    refine a_icmp_ge 42 dX11_gatherSpliced_35 (by decide) (fun c6 => ?_) (fun c6 => ?_)
    · refine a_iload dX11_gatherSpliced_42 4 rfl ?_
      exact t_X11_gatherSpliced_b44 h0 N K25 hK25 h x0 x1 x2 x3 x4 x5 x6 x4
    · refine a_iload_n dX11_gatherSpliced_38 rfl 2 rfl ?_
      refine a_goto 44 dX11_gatherSpliced_39 (by decide) ?_
      exact t_X11_gatherSpliced_b44 h0 N K25 hK25 h x0 x1 x2 x3 x4 x5 x6 x2
set_option maxRecDepth 100000 in
set_option maxHeartbeats 4000000 in
theorem t_X11_gatherSpliced_b25 (h0 : AH) (N : Nat) : ∀ (n : Nat) (h : AH) (x0 : Nat) (x1 : Int32) (x2 : Int32) (x3 : Int32) (x4 : Int32) (x5 : Int32) (x6 : Int32) , AO l g M_X11_gatherSpliced false h0 25 [(0, .ref x0), (1, .int x1), (2, .int x2), (3, .int x3), (4, .int x4), (5, .int x5), (6, .int x6)] [] h 0 0 rSv (f_X11_gatherSpliced_b25 N  n h x0 x1 x2 x3 x4 x5 x6) := by
  intro n
  induction n with
  | zero => intro h x0 x1 x2 x3 x4 x5 x6; exact a_eq rfl a_none
  | succ n ih => intro h x0 x1 x2 x3 x4 x5 x6; exact a_eq rfl (t_X11_gatherSpliced_b25_body h0 N  (f_X11_gatherSpliced_b25 N  n) ih h x0 x1 x2 x3 x4 x5 x6)
end
set_option maxRecDepth 100000 in
set_option maxHeartbeats 4000000 in
theorem c_X11_gatherSpliced (l : Launch) (g : GG) (h0 : AH) (N : Nat) (p0 : Nat) (p1 : Int32) (p2 : Int32) (p3 : Int32) (p4 : Int32) : CN l g yX11_gatherSpliced M_X11_gatherSpliced false [.ref p0, .int p1, .int p2, .int p3, .int p4] h0 rSv (f_X11_gatherSpliced h0 N p0 p1 p2 p3 p4) := by
  refine CN.of (by decide) rfl (fun hh => by first | rfl | cases hh) (Nat.le_of_ble_eq_true rfl) ?_
  unfold f_X11_gatherSpliced
  refine a_gd (fun hkd => ?_)
  refine a_bipush (v := 8) dX11_gatherSpliced_0 (by decide) ?_
  refine a_aload_n dX11_gatherSpliced_2 rfl 0 rfl ?_
  refine a_getr kc12 0 dX11_gatherSpliced_3 (by decide) rfl w_fieldLink_RainCover_12 (fun v1 => ?_)
  refine a_iload_n dX11_gatherSpliced_6 rfl 1 rfl ?_
  refine a_cV_Pr (r := v1) (ci := 0) (as := [.int p1]) (st := [.int 8]) dX11_gatherSpliced_7 (c_Jx4a65c_get_915e3 l g h0 v1 p1) rfl km_Jx4a65c_get_915e3 (hm_Jx4a65c_get_915e3) rfl (by decide) rfl (fun _ ee => g_Jx4a65c_get_915e3 ee) w_methodLink_RainCover_124 w_instanceMethod_java_util_ArrayList_get__I_Ljava_lang_Object_ w_selects_java_util_ArrayList_java_util_ArrayList_get__I_Ljava_lang_Object__java_util_ArrayList_get__I_Ljava_lang_Object_ ⟨⟨by decide, by decide⟩, ⟨by decide, by decide⟩⟩ (Nat.le_of_ble_eq_true rfl) (fun v2 => ?_)
  refine a_cast kc4 dX11_gatherSpliced_10 w_classLink_RainCover_108 ?_
  refine a_geti kc4 0 dX11_gatherSpliced_13 (by decide) rfl w_fieldLink_RainCover_182 (fun v3 => ?_)
  refine a_bipush (v := 25) dX11_gatherSpliced_16 (by decide) ?_
  refine a_idiv dX11_gatherSpliced_18 (fun c4 => ?_)
  refine a_iadd dX11_gatherSpliced_19 ?_
  refine a_istore (lc2 := [(5, .int (8 + (v3 / 25))), (0, .ref p0), (1, .int p1), (2, .int p2), (3, .int p3), (4, .int p4)]) dX11_gatherSpliced_20 (by decide) rfl ?_
  refine a_iconst (v := 0) dX11_gatherSpliced_22 (by decide) ?_
  refine a_istore (lc2 := [(6, .int 0), (5, .int (8 + (v3 / 25))), (0, .ref p0), (1, .int p1), (2, .int p2), (3, .int p3), (4, .int p4)]) dX11_gatherSpliced_23 (by decide) rfl ?_
  refine a_pick (lc2 := [(0, .ref p0), (1, .int p1), (2, .int p2), (3, .int p3), (4, .int p4), (5, .int (8 + (v3 / 25))), (6, .int 0)]) [2, 3, 4, 5, 6, 1, 0] rfl ?_
  exact t_X11_gatherSpliced_b25 h0 N N h0 p0 p1 p2 p3 p4 (8 + (v3 / 25)) 0
theorem dX11_foretold_0 : decode cX11_foretold 0 = .ok (.aload_n 0, 1) := by decide +kernel
theorem dX11_foretold_1 : decode cX11_foretold 1 = .ok (.iload_n 1, 1) := by decide +kernel
theorem dX11_foretold_2 : decode cX11_foretold 2 = .ok (.iload_n 2, 1) := by decide +kernel
theorem dX11_foretold_3 : decode cX11_foretold 3 = .ok (.iload 5, 2) := by decide +kernel
theorem dX11_foretold_5 : decode cX11_foretold 5 = .ok (.iload 6, 2) := by decide +kernel
theorem dX11_foretold_7 : decode cX11_foretold 7 = .ok (.invokevirtual 368, 3) := by decide +kernel
theorem dX11_foretold_10 : decode cX11_foretold 10 = .ok (.ifCond .eq 10, 3) := by decide +kernel
theorem dX11_foretold_13 : decode cX11_foretold 13 = .ok (.iload_n 3, 1) := by decide +kernel
theorem dX11_foretold_14 : decode cX11_foretold 14 = .ok (.invokestatic 100, 3) := by decide +kernel
theorem dX11_foretold_17 : decode cX11_foretold 17 = .ok (.ifCond .ne 5, 3) := by decide +kernel
theorem dX11_foretold_20 : decode cX11_foretold 20 = .ok (.iconst (-1), 1) := by decide +kernel
theorem dX11_foretold_21 : decode cX11_foretold 21 = .ok (.ireturn, 1) := by decide +kernel
theorem dX11_foretold_22 : decode cX11_foretold 22 = .ok (.iload 4, 2) := by decide +kernel
theorem dX11_foretold_24 : decode cX11_foretold 24 = .ok (.iconst 0, 1) := by decide +kernel
theorem dX11_foretold_25 : decode cX11_foretold 25 = .ok (.bipush 12, 2) := by decide +kernel
theorem dX11_foretold_27 : decode cX11_foretold 27 = .ok (.invokestatic 120, 3) := by decide +kernel
theorem dX11_foretold_30 : decode cX11_foretold 30 = .ok (.ifCond .eq 13, 3) := by decide +kernel
theorem dX11_foretold_33 : decode cX11_foretold 33 = .ok (.iload 7, 2) := by decide +kernel
theorem dX11_foretold_35 : decode cX11_foretold 35 = .ok (.iconst 0, 1) := by decide +kernel
theorem dX11_foretold_36 : decode cX11_foretold 36 = .ok (.iconst 3, 1) := by decide +kernel
theorem dX11_foretold_37 : decode cX11_foretold 37 = .ok (.invokestatic 120, 3) := by decide +kernel
theorem dX11_foretold_40 : decode cX11_foretold 40 = .ok (.ifCond .ne 5, 3) := by decide +kernel
theorem dX11_foretold_43 : decode cX11_foretold 43 = .ok (.iconst (-1), 1) := by decide +kernel
theorem dX11_foretold_44 : decode cX11_foretold 44 = .ok (.ireturn, 1) := by decide +kernel
theorem dX11_foretold_45 : decode cX11_foretold 45 = .ok (.iconst 0, 1) := by decide +kernel
theorem dX11_foretold_46 : decode cX11_foretold 46 = .ok (.istore 8, 2) := by decide +kernel
theorem dX11_foretold_48 : decode cX11_foretold 48 = .ok (.iconst 0, 1) := by decide +kernel
theorem dX11_foretold_49 : decode cX11_foretold 49 = .ok (.istore 9, 2) := by decide +kernel
theorem dX11_foretold_51 : decode cX11_foretold 51 = .ok (.iconst 0, 1) := by decide +kernel
theorem dX11_foretold_52 : decode cX11_foretold 52 = .ok (.istore 10, 2) := by decide +kernel
theorem dX11_foretold_54 : decode cX11_foretold 54 = .ok (.iconst 0, 1) := by decide +kernel
theorem dX11_foretold_55 : decode cX11_foretold 55 = .ok (.istore 11, 2) := by decide +kernel
theorem dX11_foretold_57 : decode cX11_foretold 57 = .ok (.iconst 0, 1) := by decide +kernel
theorem dX11_foretold_58 : decode cX11_foretold 58 = .ok (.istore 12, 2) := by decide +kernel
theorem dX11_foretold_60 : decode cX11_foretold 60 = .ok (.iload 12, 2) := by decide +kernel
theorem dX11_foretold_62 : decode cX11_foretold 62 = .ok (.bipush 16, 2) := by decide +kernel
theorem dX11_foretold_64 : decode cX11_foretold 64 = .ok (.if_icmp .ge 108, 3) := by decide +kernel
theorem dX11_foretold_67 : decode cX11_foretold 67 = .ok (.iload 12, 2) := by decide +kernel
theorem dX11_foretold_69 : decode cX11_foretold 69 = .ok (.iload_n 3, 1) := by decide +kernel
theorem dX11_foretold_70 : decode cX11_foretold 70 = .ok (.if_icmp .eq 96, 3) := by decide +kernel
theorem dX11_foretold_73 : decode cX11_foretold 73 = .ok (.aload_n 0, 1) := by decide +kernel
theorem dX11_foretold_74 : decode cX11_foretold 74 = .ok (.iload_n 2, 1) := by decide +kernel
theorem dX11_foretold_75 : decode cX11_foretold 75 = .ok (.iload 12, 2) := by decide +kernel
theorem dX11_foretold_77 : decode cX11_foretold 77 = .ok (.invokevirtual 387, 3) := by decide +kernel
theorem dX11_foretold_80 : decode cX11_foretold 80 = .ok (.ifCond .ne 6, 3) := by decide +kernel
theorem dX11_foretold_83 : decode cX11_foretold 83 = .ok (.goto 83, 3) := by decide +kernel
theorem dX11_foretold_86 : decode cX11_foretold 86 = .ok (.aload_n 0, 1) := by decide +kernel
theorem dX11_foretold_87 : decode cX11_foretold 87 = .ok (.iload_n 2, 1) := by decide +kernel
theorem dX11_foretold_88 : decode cX11_foretold 88 = .ok (.iload_n 3, 1) := by decide +kernel
theorem dX11_foretold_89 : decode cX11_foretold 89 = .ok (.iload 4, 2) := by decide +kernel
theorem dX11_foretold_91 : decode cX11_foretold 91 = .ok (.iload 12, 2) := by decide +kernel
theorem dX11_foretold_93 : decode cX11_foretold 93 = .ok (.invokevirtual 390, 3) := by decide +kernel
theorem dX11_foretold_96 : decode cX11_foretold 96 = .ok (.aload_n 0, 1) := by decide +kernel
theorem dX11_foretold_97 : decode cX11_foretold 97 = .ok (.getfield 18, 3) := by decide +kernel
theorem dX11_foretold_100 : decode cX11_foretold 100 = .ok (.iload_n 1, 1) := by decide +kernel
theorem dX11_foretold_101 : decode cX11_foretold 101 = .ok (.invokevirtual 124, 3) := by decide +kernel
theorem dX11_foretold_104 : decode cX11_foretold 104 = .ok (.checkcast 215, 3) := by decide +kernel
theorem dX11_foretold_107 : decode cX11_foretold 107 = .ok (.aload_n 0, 1) := by decide +kernel
theorem dX11_foretold_108 : decode cX11_foretold 108 = .ok (.getfield 84, 3) := by decide +kernel
theorem dX11_foretold_111 : decode cX11_foretold 111 = .ok (.aload_n 0, 1) := by decide +kernel
theorem dX11_foretold_112 : decode cX11_foretold 112 = .ok (.getfield 87, 3) := by decide +kernel
theorem dX11_foretold_115 : decode cX11_foretold 115 = .ok (.iload 5, 2) := by decide +kernel
theorem dX11_foretold_117 : decode cX11_foretold 117 = .ok (.getstatic 226, 3) := by decide +kernel
theorem dX11_foretold_120 : decode cX11_foretold 120 = .ok (.iload 6, 2) := by decide +kernel
theorem dX11_foretold_122 : decode cX11_foretold 122 = .ok (.iaload, 1) := by decide +kernel
theorem dX11_foretold_123 : decode cX11_foretold 123 = .ok (.invokevirtual 229, 3) := by decide +kernel
theorem dX11_foretold_126 : decode cX11_foretold 126 = .ok (.istore 13, 2) := by decide +kernel
theorem dX11_foretold_128 : decode cX11_foretold 128 = .ok (.iload 11, 2) := by decide +kernel
theorem dX11_foretold_130 : decode cX11_foretold 130 = .ok (.ifCond .ne 8, 3) := by decide +kernel
theorem dX11_foretold_133 : decode cX11_foretold 133 = .ok (.iload 13, 2) := by decide +kernel
theorem dX11_foretold_135 : decode cX11_foretold 135 = .ok (.goto 10, 3) := by decide +kernel
theorem dX11_foretold_138 : decode cX11_foretold 138 = .ok (.iload 8, 2) := by decide +kernel
theorem dX11_foretold_140 : decode cX11_foretold 140 = .ok (.iload 13, 2) := by decide +kernel
theorem dX11_foretold_142 : decode cX11_foretold 142 = .ok (.invokestatic 340, 3) := by decide +kernel
theorem dX11_foretold_145 : decode cX11_foretold 145 = .ok (.istore 8, 2) := by decide +kernel
theorem dX11_foretold_147 : decode cX11_foretold 147 = .ok (.iload 9, 2) := by decide +kernel
theorem dX11_foretold_149 : decode cX11_foretold 149 = .ok (.iload 13, 2) := by decide +kernel
theorem dX11_foretold_151 : decode cX11_foretold 151 = .ok (.invokestatic 348, 3) := by decide +kernel
theorem dX11_foretold_154 : decode cX11_foretold 154 = .ok (.istore 9, 2) := by decide +kernel
theorem dX11_foretold_156 : decode cX11_foretold 156 = .ok (.iload 10, 2) := by decide +kernel
theorem dX11_foretold_158 : decode cX11_foretold 158 = .ok (.iload 13, 2) := by decide +kernel
theorem dX11_foretold_160 : decode cX11_foretold 160 = .ok (.iadd, 1) := by decide +kernel
theorem dX11_foretold_161 : decode cX11_foretold 161 = .ok (.istore 10, 2) := by decide +kernel
theorem dX11_foretold_163 : decode cX11_foretold 163 = .ok (.iinc 11 1, 3) := by decide +kernel
theorem dX11_foretold_166 : decode cX11_foretold 166 = .ok (.iinc 12 1, 3) := by decide +kernel
theorem dX11_foretold_169 : decode cX11_foretold 169 = .ok (.goto (-109), 3) := by decide +kernel
theorem dX11_foretold_172 : decode cX11_foretold 172 = .ok (.iload 7, 2) := by decide +kernel
theorem dX11_foretold_174 : decode cX11_foretold 174 = .ok (.tableswitch 35 0 2 #[26, 29, 32], 26) := by decide +kernel
theorem dX11_foretold_200 : decode cX11_foretold 200 = .ok (.iload 8, 2) := by decide +kernel
theorem dX11_foretold_202 : decode cX11_foretold 202 = .ok (.ireturn, 1) := by decide +kernel
theorem dX11_foretold_203 : decode cX11_foretold 203 = .ok (.iload 9, 2) := by decide +kernel
theorem dX11_foretold_205 : decode cX11_foretold 205 = .ok (.ireturn, 1) := by decide +kernel
theorem dX11_foretold_206 : decode cX11_foretold 206 = .ok (.iload 10, 2) := by decide +kernel
theorem dX11_foretold_208 : decode cX11_foretold 208 = .ok (.ireturn, 1) := by decide +kernel
theorem dX11_foretold_209 : decode cX11_foretold 209 = .ok (.iload 11, 2) := by decide +kernel
theorem dX11_foretold_211 : decode cX11_foretold 211 = .ok (.ireturn, 1) := by decide +kernel
abbrev M_X11_foretold : MI := (RX11, cX11_foretold, 14, (some .int), ({ frames := 6, cells := 0, slots := 0, locals := 147 } : Room), 0, 0, false)
def f_X11_foretold_b166 (N : Nat) (K60 : AH → Nat → Int32 → Int32 → Int32 → Int32 → Int32 → Int32 → Int32 → Int32 → Int32 → Int32 → Int32 → Int32 → Option (Int32 × AH)) (h : AH) (x0 : Nat) (x1 : Int32) (x2 : Int32) (x3 : Int32) (x4 : Int32) (x5 : Int32) (x6 : Int32) (x7 : Int32) (x8 : Int32) (x9 : Int32) (x10 : Int32) (x11 : Int32) (x12 : Int32) : Option (Int32 × AH) := K60 h x0 x1 x2 x3 x4 x5 x6 x7 x8 x9 x10 x11 (x12 + 1)
def f_X11_foretold_b145 (N : Nat) (K60 : AH → Nat → Int32 → Int32 → Int32 → Int32 → Int32 → Int32 → Int32 → Int32 → Int32 → Int32 → Int32 → Int32 → Option (Int32 × AH)) (h : AH) (x0 : Nat) (x1 : Int32) (x2 : Int32) (x3 : Int32) (x4 : Int32) (x5 : Int32) (x6 : Int32) (x7 : Int32) (x9 : Int32) (x10 : Int32) (x11 : Int32) (x12 : Int32) (x13 : Int32) (s13 : Int32) : Option (Int32 × AH) := f_X11_foretold_b166 N K60 h x0 x1 x2 x3 x4 x5 x6 x7 s13 (if x9 < x13 then x13 else x9) (x10 + x13) (x11 + 1) x12
def f_X11_foretold_b60_body (N : Nat) (K60 : AH → Nat → Int32 → Int32 → Int32 → Int32 → Int32 → Int32 → Int32 → Int32 → Int32 → Int32 → Int32 → Int32 → Option (Int32 × AH)) (h : AH) (x0 : Nat) (x1 : Int32) (x2 : Int32) (x3 : Int32) (x4 : Int32) (x5 : Int32) (x6 : Int32) (x7 : Int32) (x8 : Int32) (x9 : Int32) (x10 : Int32) (x11 : Int32) (x12 : Int32) : Option (Int32 × AH) := (if 16 ≤ x12 then (if x7 = 0 then some (x8, h) else (if x7 = 1 then some (x9, h) else (if x7 = 2 then some (x10, h) else some (x11, h)))) else (if x12 = x3 then f_X11_foretold_b166 N K60 h x0 x1 x2 x3 x4 x5 x6 x7 x8 x9 x10 x11 x12 else (f_X11_isKnown h N x0 x2 x12).bind fun v14 => (if v14 = 0 then f_X11_foretold_b166 N K60 h x0 x1 x2 x3 x4 x5 x6 x7 x8 x9 x10 x11 x12 else (f_X11_gatherSpliced h N x0 x2 x3 x4 x12).bind fun q16 => (xgr q16 x0 12 1).bind fun v17 => (f_Jx4a65c_get_915e3 q16 v17 x1).bind fun v18 => (xcc q16 v18 11).bind fun _ => (xgr q16 x0 12 16).bind fun v19 => (xgr q16 x0 12 17).bind fun v20 => (xia q16 9001 x6).bind fun v21 => (f_X10_amountFor q16 N v18 v19 v20 x5 v21).bind fun v22 => (if x11 = 0 then f_X11_foretold_b145 N K60 q16 x0 x1 x2 x3 x4 x5 x6 x7 x9 x10 x11 x12 v22 v22 else f_X11_foretold_b145 N K60 q16 x0 x1 x2 x3 x4 x5 x6 x7 x9 x10 x11 x12 v22 (if v22 < x8 then v22 else x8)))))
def f_X11_foretold_b60 (N : Nat) : Nat → AH → Nat → Int32 → Int32 → Int32 → Int32 → Int32 → Int32 → Int32 → Int32 → Int32 → Int32 → Int32 → Int32 → Option (Int32 × AH)
  | 0, _, _, _, _, _, _, _, _, _, _, _, _, _, _ => none
  | n + 1, h, x0, x1, x2, x3, x4, x5, x6, x7, x8, x9, x10, x11, x12 => f_X11_foretold_b60_body N  (f_X11_foretold_b60 N  n) h x0 x1 x2 x3 x4 x5 x6 x7 x8 x9 x10 x11 x12
def f_X11_foretold (h0 : AH) (N : Nat) (p0 : Nat) (p1 : Int32) (p2 : Int32) (p3 : Int32) (p4 : Int32) (p5 : Int32) (p6 : Int32) (p7 : Int32) : Option (Int32 × AH) := if kd h0 p0 = 12 + 1 then (f_X11_isOffer h0 p0 p1 p2 p5 p6).bind fun v1 => (if v1 = 0 then some ((-1), h0) else (f_X11_isSeason h0 p3).bind fun v3 => (if v3 = 0 then some ((-1), h0) else (f_X11_within h0 p4 0 12).bind fun v5 => (if v5 = 0 then some ((-1), h0) else (f_X11_within h0 p7 0 3).bind fun v7 => (if v7 = 0 then some ((-1), h0) else f_X11_foretold_b60 N N h0 p0 p1 p2 p3 p4 p5 p6 p7 0 0 0 0 0)))) else none
theorem g_X11_foretold {h0 : AH} {N : Nat} {p0 : Nat} {p1 : Int32} {p2 : Int32} {p3 : Int32} {p4 : Int32} {p5 : Int32} {p6 : Int32} {p7 : Int32} {x : (Int32 × AH)} (e : f_X11_foretold h0 N p0 p1 p2 p3 p4 p5 p6 p7 = some x) : kd h0 p0 = 12 + 1 := by
  unfold f_X11_foretold at e
  by_cases hk : kd h0 p0 = 12 + 1
  · exact hk
  · rw [if_neg hk] at e
    cases e
theorem km_X11_foretold : KM yX11_foretold M_X11_foretold 7 := ⟨in_tb 940 (by decide +kernel) rfl, in_tb 1 (by decide +kernel) rfl, by decide +kernel, rfl, rfl⟩
theorem hm_X11_foretold : M_X11_foretold.2.2.2.2.2.1 = 0 ∧ M_X11_foretold.2.2.2.2.2.2.1 = 0 := ⟨rfl, rfl⟩
section
variable {l : Launch} {g : GG}
set_option maxRecDepth 100000 in
set_option maxHeartbeats 4000000 in
theorem t_X11_foretold_b166 (h0 : AH) (N : Nat) (K60 : AH → Nat → Int32 → Int32 → Int32 → Int32 → Int32 → Int32 → Int32 → Int32 → Int32 → Int32 → Int32 → Int32 → Option (Int32 × AH)) (hK60 : ∀ (z : AH) (z0 : Nat) (z1 : Int32) (z2 : Int32) (z3 : Int32) (z4 : Int32) (z5 : Int32) (z6 : Int32) (z7 : Int32) (z8 : Int32) (z9 : Int32) (z10 : Int32) (z11 : Int32) (z12 : Int32), AO l g M_X11_foretold false h0 60 [(0, .ref z0), (1, .int z1), (2, .int z2), (3, .int z3), (4, .int z4), (5, .int z5), (6, .int z6), (7, .int z7), (8, .int z8), (9, .int z9), (10, .int z10), (11, .int z11), (12, .int z12)] [] z 0 0 rSi (K60 z z0 z1 z2 z3 z4 z5 z6 z7 z8 z9 z10 z11 z12)) (h : AH) (x0 : Nat) (x1 : Int32) (x2 : Int32) (x3 : Int32) (x4 : Int32) (x5 : Int32) (x6 : Int32) (x7 : Int32) (x8 : Int32) (x9 : Int32) (x10 : Int32) (x11 : Int32) (x12 : Int32) : AO l g M_X11_foretold false h0 166 [(0, .ref x0), (1, .int x1), (2, .int x2), (3, .int x3), (4, .int x4), (5, .int x5), (6, .int x6), (7, .int x7), (8, .int x8), (9, .int x9), (10, .int x10), (11, .int x11), (12, .int x12)] [] h 0 0 rSi (f_X11_foretold_b166 N K60 h x0 x1 x2 x3 x4 x5 x6 x7 x8 x9 x10 x11 x12) := by
  unfold f_X11_foretold_b166
  refine a_iinc (q := 12) (v := (x12 + 1)) (lc2 := [(12, .int (x12 + 1)), (0, .ref x0), (1, .int x1), (2, .int x2), (3, .int x3), (4, .int x4), (5, .int x5), (6, .int x6), (7, .int x7), (8, .int x8), (9, .int x9), (10, .int x10), (11, .int x11)]) dX11_foretold_166 rfl rfl (by decide) rfl ?_
  refine a_goto 60 dX11_foretold_169 (by decide) ?_
  refine a_pick (lc2 := [(0, .ref x0), (1, .int x1), (2, .int x2), (3, .int x3), (4, .int x4), (5, .int x5), (6, .int x6), (7, .int x7), (8, .int x8), (9, .int x9), (10, .int x10), (11, .int x11), (12, .int (x12 + 1))]) [1, 2, 3, 4, 5, 6, 7, 8, 9, 10, 11, 12, 0] rfl ?_
  exact hK60 h x0 x1 x2 x3 x4 x5 x6 x7 x8 x9 x10 x11 (x12 + 1)
set_option maxRecDepth 100000 in
set_option maxHeartbeats 4000000 in
theorem t_X11_foretold_b145 (h0 : AH) (N : Nat) (K60 : AH → Nat → Int32 → Int32 → Int32 → Int32 → Int32 → Int32 → Int32 → Int32 → Int32 → Int32 → Int32 → Int32 → Option (Int32 × AH)) (hK60 : ∀ (z : AH) (z0 : Nat) (z1 : Int32) (z2 : Int32) (z3 : Int32) (z4 : Int32) (z5 : Int32) (z6 : Int32) (z7 : Int32) (z8 : Int32) (z9 : Int32) (z10 : Int32) (z11 : Int32) (z12 : Int32), AO l g M_X11_foretold false h0 60 [(0, .ref z0), (1, .int z1), (2, .int z2), (3, .int z3), (4, .int z4), (5, .int z5), (6, .int z6), (7, .int z7), (8, .int z8), (9, .int z9), (10, .int z10), (11, .int z11), (12, .int z12)] [] z 0 0 rSi (K60 z z0 z1 z2 z3 z4 z5 z6 z7 z8 z9 z10 z11 z12)) (h : AH) (x0 : Nat) (x1 : Int32) (x2 : Int32) (x3 : Int32) (x4 : Int32) (x5 : Int32) (x6 : Int32) (x7 : Int32) (x9 : Int32) (x10 : Int32) (x11 : Int32) (x12 : Int32) (x13 : Int32) (s13 : Int32) : AO l g M_X11_foretold false h0 145 [(0, .ref x0), (1, .int x1), (2, .int x2), (3, .int x3), (4, .int x4), (5, .int x5), (6, .int x6), (7, .int x7), (9, .int x9), (10, .int x10), (11, .int x11), (12, .int x12), (13, .int x13)] [.int s13] h 0 0 rSi (f_X11_foretold_b145 N K60 h x0 x1 x2 x3 x4 x5 x6 x7 x9 x10 x11 x12 x13 s13) := by
  unfold f_X11_foretold_b145
  refine a_istore (lc2 := [(8, .int s13), (0, .ref x0), (1, .int x1), (2, .int x2), (3, .int x3), (4, .int x4), (5, .int x5), (6, .int x6), (7, .int x7), (9, .int x9), (10, .int x10), (11, .int x11), (12, .int x12), (13, .int x13)]) dX11_foretold_145 (by decide) rfl ?_
  refine a_iload dX11_foretold_147 9 rfl ?_
  refine a_iload dX11_foretold_149 13 rfl ?_
  refine a_mmax dX11_foretold_151 w_methodLink_RainCover_348 w_static_java_lang_Math_max__II_I w_initialized_java_lang_Math w_code_java_lang_Math_max__II_I (by decide) (by decide) (by decide) (by decide) (Nat.le_of_ble_eq_true rfl) ?_
  refine a_istore (lc2 := [(9, .int (if x9 < x13 then x13 else x9)), (8, .int s13), (0, .ref x0), (1, .int x1), (2, .int x2), (3, .int x3), (4, .int x4), (5, .int x5), (6, .int x6), (7, .int x7), (10, .int x10), (11, .int x11), (12, .int x12), (13, .int x13)]) dX11_foretold_154 (by decide) rfl ?_
  refine a_iload dX11_foretold_156 10 rfl ?_
  refine a_iload dX11_foretold_158 13 rfl ?_
  refine a_iadd dX11_foretold_160 ?_
  refine a_istore (lc2 := [(10, .int (x10 + x13)), (9, .int (if x9 < x13 then x13 else x9)), (8, .int s13), (0, .ref x0), (1, .int x1), (2, .int x2), (3, .int x3), (4, .int x4), (5, .int x5), (6, .int x6), (7, .int x7), (11, .int x11), (12, .int x12), (13, .int x13)]) dX11_foretold_161 (by decide) rfl ?_
  refine a_iinc (q := 11) (v := (x11 + 1)) (lc2 := [(11, .int (x11 + 1)), (10, .int (x10 + x13)), (9, .int (if x9 < x13 then x13 else x9)), (8, .int s13), (0, .ref x0), (1, .int x1), (2, .int x2), (3, .int x3), (4, .int x4), (5, .int x5), (6, .int x6), (7, .int x7), (12, .int x12), (13, .int x13)]) dX11_foretold_163 rfl rfl (by decide) rfl ?_
  refine a_pick (lc2 := [(0, .ref x0), (1, .int x1), (2, .int x2), (3, .int x3), (4, .int x4), (5, .int x5), (6, .int x6), (7, .int x7), (8, .int s13), (9, .int (if x9 < x13 then x13 else x9)), (10, .int (x10 + x13)), (11, .int (x11 + 1)), (12, .int x12)]) [4, 5, 6, 7, 8, 9, 10, 11, 3, 2, 1, 0, 12] rfl ?_
  exact t_X11_foretold_b166 h0 N K60 hK60 h x0 x1 x2 x3 x4 x5 x6 x7 s13 (if x9 < x13 then x13 else x9) (x10 + x13) (x11 + 1) x12
set_option maxRecDepth 100000 in
set_option maxHeartbeats 4000000 in
theorem t_X11_foretold_b60_body (h0 : AH) (N : Nat) (K60 : AH → Nat → Int32 → Int32 → Int32 → Int32 → Int32 → Int32 → Int32 → Int32 → Int32 → Int32 → Int32 → Int32 → Option (Int32 × AH)) (hK60 : ∀ (z : AH) (z0 : Nat) (z1 : Int32) (z2 : Int32) (z3 : Int32) (z4 : Int32) (z5 : Int32) (z6 : Int32) (z7 : Int32) (z8 : Int32) (z9 : Int32) (z10 : Int32) (z11 : Int32) (z12 : Int32), AO l g M_X11_foretold false h0 60 [(0, .ref z0), (1, .int z1), (2, .int z2), (3, .int z3), (4, .int z4), (5, .int z5), (6, .int z6), (7, .int z7), (8, .int z8), (9, .int z9), (10, .int z10), (11, .int z11), (12, .int z12)] [] z 0 0 rSi (K60 z z0 z1 z2 z3 z4 z5 z6 z7 z8 z9 z10 z11 z12)) (h : AH) (x0 : Nat) (x1 : Int32) (x2 : Int32) (x3 : Int32) (x4 : Int32) (x5 : Int32) (x6 : Int32) (x7 : Int32) (x8 : Int32) (x9 : Int32) (x10 : Int32) (x11 : Int32) (x12 : Int32) : AO l g M_X11_foretold false h0 60 [(0, .ref x0), (1, .int x1), (2, .int x2), (3, .int x3), (4, .int x4), (5, .int x5), (6, .int x6), (7, .int x7), (8, .int x8), (9, .int x9), (10, .int x10), (11, .int x11), (12, .int x12)] [] h 0 0 rSi (f_X11_foretold_b60_body N K60 h x0 x1 x2 x3 x4 x5 x6 x7 x8 x9 x10 x11 x12) := by
  unfold f_X11_foretold_b60_body
  refine a_iload dX11_foretold_60 12 rfl ?_
  refine a_bipush (v := 16) dX11_foretold_62 (by decide) ?_
  refine a_icmp_ge 172 dX11_foretold_64 (by decide) (fun c9 => ?_) (fun c9 => ?_)
  · refine a_iload dX11_foretold_172 7 rfl ?_
    refine a_swt (v := 0) 200 dX11_foretold_174 (by decide) (by decide) (fun c10 => ?_) (fun c10 => ?_)
    · refine a_iload dX11_foretold_200 8 rfl ?_
      exact a_iret dX11_foretold_202 rfl rfl (by decide) (by decide)
    refine a_swt (v := 1) 203 dX11_foretold_174 (by decide) (by decide) (fun c11 => ?_) (fun c11 => ?_)
    · refine a_iload dX11_foretold_203 9 rfl ?_
      exact a_iret dX11_foretold_205 rfl rfl (by decide) (by decide)
    refine a_swt (v := 2) 206 dX11_foretold_174 (by decide) (by decide) (fun c12 => ?_) (fun c12 => ?_)
    · refine a_iload dX11_foretold_206 10 rfl ?_
      exact a_iret dX11_foretold_208 rfl rfl (by decide) (by decide)
    refine a_swtd (vs := [0, 1, 2]) 209 dX11_foretold_174 (by decide) (by decide) (List.forall_mem_cons.mpr ⟨c10, List.forall_mem_cons.mpr ⟨c11, List.forall_mem_cons.mpr ⟨c12, fun _ hh => absurd hh List.not_mem_nil⟩⟩⟩) ?_
    refine a_iload dX11_foretold_209 11 rfl ?_
    exact a_iret dX11_foretold_211 rfl rfl (by decide) (by decide)
  · refine a_iload dX11_foretold_67 12 rfl ?_
    refine a_iload_n dX11_foretold_69 rfl 3 rfl ?_
    refine a_icmp_eq 166 dX11_foretold_70 (by decide) (fun c13 => ?_) (fun c13 => ?_)
    · exact t_X11_foretold_b166 h0 N K60 hK60 h x0 x1 x2 x3 x4 x5 x6 x7 x8 x9 x10 x11 x12
    · refine a_aload_n dX11_foretold_73 rfl 0 rfl ?_
      refine a_iload_n dX11_foretold_74 rfl 2 rfl ?_
      refine a_iload dX11_foretold_75 12 rfl ?_
      refine a_cV_Pi (r := x0) (ci := 12) (as := [.int x2, .int x12]) (st := []) dX11_foretold_77 (c_X11_isKnown l g h N x0 x2 x12) rfl km_X11_isKnown (hm_X11_isKnown) rfl (by decide) rfl (fun _ ee => g_X11_isKnown ee) w_methodLink_RainCover_387 w_instanceMethod_RainCover_isKnown__II_Z w_selects_RainCover_RainCover_isKnown__II_Z_RainCover_isKnown__II_Z ⟨⟨by decide, by decide⟩, ⟨by decide, by decide⟩⟩ (Nat.le_of_ble_eq_true rfl) (fun v14 => ?_)
      refine a_if_ne 86 dX11_foretold_80 (by decide) (fun c15 => ?_) (fun c15 => ?_)
      · refine a_goto 166 dX11_foretold_83 (by decide) ?_
        exact t_X11_foretold_b166 h0 N K60 hK60 h x0 x1 x2 x3 x4 x5 x6 x7 x8 x9 x10 x11 x12
      · refine a_aload_n dX11_foretold_86 rfl 0 rfl ?_
        refine a_iload_n dX11_foretold_87 rfl 2 rfl ?_
        refine a_iload_n dX11_foretold_88 rfl 3 rfl ?_
        refine a_iload dX11_foretold_89 4 rfl ?_
        refine a_iload dX11_foretold_91 12 rfl ?_
        refine a_cV_Sv (r := x0) (ci := 12) (as := [.int x2, .int x3, .int x4, .int x12]) (st := []) dX11_foretold_93 (c_X11_gatherSpliced l g h N x0 x2 x3 x4 x12) rfl km_X11_gatherSpliced (hm_X11_gatherSpliced) rfl (by decide) rfl (fun _ ee => g_X11_gatherSpliced ee) w_methodLink_RainCover_390 w_instanceMethod_RainCover_gatherSpliced__IIII_V w_selects_RainCover_RainCover_gatherSpliced__IIII_V_RainCover_gatherSpliced__IIII_V ⟨⟨by decide, by decide⟩, ⟨by decide, by decide⟩⟩ (Nat.le_of_ble_eq_true rfl) (fun q16 => ?_)
        refine a_aload_n dX11_foretold_96 rfl 0 rfl ?_
        refine a_getr kc12 1 dX11_foretold_97 (by decide) rfl w_fieldLink_RainCover_18 (fun v17 => ?_)
        refine a_iload_n dX11_foretold_100 rfl 1 rfl ?_
        refine a_cV_Pr (r := v17) (ci := 0) (as := [.int x1]) (st := []) dX11_foretold_101 (c_Jx4a65c_get_915e3 l g q16 v17 x1) rfl km_Jx4a65c_get_915e3 (hm_Jx4a65c_get_915e3) rfl (by decide) rfl (fun _ ee => g_Jx4a65c_get_915e3 ee) w_methodLink_RainCover_124 w_instanceMethod_java_util_ArrayList_get__I_Ljava_lang_Object_ w_selects_java_util_ArrayList_java_util_ArrayList_get__I_Ljava_lang_Object__java_util_ArrayList_get__I_Ljava_lang_Object_ ⟨⟨by decide, by decide⟩, ⟨by decide, by decide⟩⟩ (Nat.le_of_ble_eq_true rfl) (fun v18 => ?_)
        refine a_cast kc11 dX11_foretold_104 w_classLink_RainCover_215 ?_
        refine a_aload_n dX11_foretold_107 rfl 0 rfl ?_
        refine a_getr kc12 16 dX11_foretold_108 (by decide) rfl w_fieldLink_RainCover_84 (fun v19 => ?_)
        refine a_aload_n dX11_foretold_111 rfl 0 rfl ?_
        refine a_getr kc12 17 dX11_foretold_112 (by decide) rfl w_fieldLink_RainCover_87 (fun v20 => ?_)
        refine a_iload dX11_foretold_115 5 rfl ?_
        refine a_gs1 dX11_foretold_117 w_fieldLink_RainCover_226 ?_
        refine a_iload dX11_foretold_120 6 rfl ?_
        refine a_iald dX11_foretold_122 (fun v21 => ?_)
        refine a_cV_Pi (r := v18) (ci := 11) (as := [.ref v19, .ref v20, .int x5, .int v21]) (st := []) dX11_foretold_123 (c_X10_amountFor l g q16 N v18 v19 v20 x5 v21) rfl km_X10_amountFor (hm_X10_amountFor) rfl (by decide) rfl (fun _ ee => g_X10_amountFor ee) w_methodLink_RainCover_229 w_instanceMethod_RainCover_Term_amountFor___I_III_I w_selects_RainCover_Term_RainCover_Term_amountFor___I_III_I_RainCover_Term_amountFor___I_III_I ⟨⟨by decide, by decide⟩, ⟨by decide, by decide⟩⟩ (Nat.le_of_ble_eq_true rfl) (fun v22 => ?_)
        refine a_istore (lc2 := [(13, .int v22), (0, .ref x0), (1, .int x1), (2, .int x2), (3, .int x3), (4, .int x4), (5, .int x5), (6, .int x6), (7, .int x7), (8, .int x8), (9, .int x9), (10, .int x10), (11, .int x11), (12, .int x12)]) dX11_foretold_126 (by decide) rfl ?_
        refine a_iload dX11_foretold_128 12 rfl ?_
        refine a_if_ne 138 dX11_foretold_130 (by decide) (fun c23 => ?_) (fun c23 => ?_)
        · refine a_iload dX11_foretold_133 0 rfl ?_
          refine a_goto 145 dX11_foretold_135 (by decide) ?_
          refine a_pick (lc2 := [(0, .ref x0), (1, .int x1), (2, .int x2), (3, .int x3), (4, .int x4), (5, .int x5), (6, .int x6), (7, .int x7), (9, .int x9), (10, .int x10), (11, .int x11), (12, .int x12), (13, .int v22)]) [1, 2, 3, 4, 5, 6, 7, 8, 10, 11, 12, 13, 0] rfl ?_
          exact t_X11_foretold_b145 h0 N K60 hK60 q16 x0 x1 x2 x3 x4 x5 x6 x7 x9 x10 x11 x12 v22 v22
        · refine a_iload dX11_foretold_138 9 rfl ?_
          refine a_iload dX11_foretold_140 0 rfl ?_
          refine a_mmin dX11_foretold_142 w_methodLink_RainCover_340 w_static_java_lang_Math_min__II_I w_initialized_java_lang_Math w_code_java_lang_Math_min__II_I (by decide) (by decide) (by decide) (by decide) (Nat.le_of_ble_eq_true rfl) ?_
          refine a_pick (lc2 := [(0, .ref x0), (1, .int x1), (2, .int x2), (3, .int x3), (4, .int x4), (5, .int x5), (6, .int x6), (7, .int x7), (9, .int x9), (10, .int x10), (11, .int x11), (12, .int x12), (13, .int v22)]) [1, 2, 3, 4, 5, 6, 7, 8, 10, 11, 12, 13, 0] rfl ?_
          exact t_X11_foretold_b145 h0 N K60 hK60 q16 x0 x1 x2 x3 x4 x5 x6 x7 x9 x10 x11 x12 v22 (if v22 < x8 then v22 else x8)
set_option maxRecDepth 100000 in
set_option maxHeartbeats 4000000 in
theorem t_X11_foretold_b60 (h0 : AH) (N : Nat) : ∀ (n : Nat) (h : AH) (x0 : Nat) (x1 : Int32) (x2 : Int32) (x3 : Int32) (x4 : Int32) (x5 : Int32) (x6 : Int32) (x7 : Int32) (x8 : Int32) (x9 : Int32) (x10 : Int32) (x11 : Int32) (x12 : Int32) , AO l g M_X11_foretold false h0 60 [(0, .ref x0), (1, .int x1), (2, .int x2), (3, .int x3), (4, .int x4), (5, .int x5), (6, .int x6), (7, .int x7), (8, .int x8), (9, .int x9), (10, .int x10), (11, .int x11), (12, .int x12)] [] h 0 0 rSi (f_X11_foretold_b60 N  n h x0 x1 x2 x3 x4 x5 x6 x7 x8 x9 x10 x11 x12) := by
  intro n
  induction n with
  | zero => intro h x0 x1 x2 x3 x4 x5 x6 x7 x8 x9 x10 x11 x12; exact a_eq rfl a_none
  | succ n ih => intro h x0 x1 x2 x3 x4 x5 x6 x7 x8 x9 x10 x11 x12; exact a_eq rfl (t_X11_foretold_b60_body h0 N  (f_X11_foretold_b60 N  n) ih h x0 x1 x2 x3 x4 x5 x6 x7 x8 x9 x10 x11 x12)
end
set_option maxRecDepth 100000 in
set_option maxHeartbeats 4000000 in
theorem c_X11_foretold (l : Launch) (g : GG) (h0 : AH) (N : Nat) (p0 : Nat) (p1 : Int32) (p2 : Int32) (p3 : Int32) (p4 : Int32) (p5 : Int32) (p6 : Int32) (p7 : Int32) : CN l g yX11_foretold M_X11_foretold false [.ref p0, .int p1, .int p2, .int p3, .int p4, .int p5, .int p6, .int p7] h0 rSi (f_X11_foretold h0 N p0 p1 p2 p3 p4 p5 p6 p7) := by
  refine CN.of (by decide) rfl (fun hh => by first | rfl | cases hh) (Nat.le_of_ble_eq_true rfl) ?_
  unfold f_X11_foretold
  refine a_gd (fun hkd => ?_)
  refine a_aload_n dX11_foretold_0 rfl 0 rfl ?_
  refine a_iload_n dX11_foretold_1 rfl 1 rfl ?_
  refine a_iload_n dX11_foretold_2 rfl 2 rfl ?_
  refine a_iload dX11_foretold_3 5 rfl ?_
  refine a_iload dX11_foretold_5 6 rfl ?_
  refine a_cV_Pi (r := p0) (ci := 12) (as := [.int p1, .int p2, .int p5, .int p6]) (st := []) dX11_foretold_7 (c_X11_isOffer l g h0 p0 p1 p2 p5 p6) rfl km_X11_isOffer (hm_X11_isOffer) rfl (by decide) rfl (fun _ ee => g_X11_isOffer ee) w_methodLink_RainCover_368 w_instanceMethod_RainCover_isOffer__IIII_Z w_selects_RainCover_RainCover_isOffer__IIII_Z_RainCover_isOffer__IIII_Z ⟨⟨by decide, by decide⟩, ⟨by decide, by decide⟩⟩ (Nat.le_of_ble_eq_true rfl) (fun v1 => ?_)
  refine a_if_eq 20 dX11_foretold_10 (by decide) (fun c2 => ?_) (fun c2 => ?_)
  · refine a_iconst (v := (-1)) dX11_foretold_20 (by decide) ?_
    exact a_iret dX11_foretold_21 rfl rfl (by decide) (by decide)
  · refine a_iload_n dX11_foretold_13 rfl 3 rfl ?_
    refine a_cS_Pi (as := [.int p3]) (st := []) dX11_foretold_14 (c_X11_isSeason l g h0 p3) rfl km_X11_isSeason (hm_X11_isSeason) w_methodLink_RainCover_100 w_static_RainCover_isSeason__I_Z ⟨⟨by decide, by decide⟩, ⟨by decide, by decide⟩⟩ (Nat.le_of_ble_eq_true rfl) (fun v3 => ?_)
    refine a_if_ne 22 dX11_foretold_17 (by decide) (fun c4 => ?_) (fun c4 => ?_)
    · refine a_iconst (v := (-1)) dX11_foretold_20 (by decide) ?_
      exact a_iret dX11_foretold_21 rfl rfl (by decide) (by decide)
    · refine a_iload dX11_foretold_22 4 rfl ?_
      refine a_iconst (v := 0) dX11_foretold_24 (by decide) ?_
      refine a_bipush (v := 12) dX11_foretold_25 (by decide) ?_
      refine a_cS_Pi (as := [.int p4, .int 0, .int 12]) (st := []) dX11_foretold_27 (c_X11_within l g h0 p4 0 12) rfl km_X11_within (hm_X11_within) w_methodLink_RainCover_120 w_static_RainCover_within__III_Z ⟨⟨by decide, by decide⟩, ⟨by decide, by decide⟩⟩ (Nat.le_of_ble_eq_true rfl) (fun v5 => ?_)
      refine a_if_eq 43 dX11_foretold_30 (by decide) (fun c6 => ?_) (fun c6 => ?_)
      · refine a_iconst (v := (-1)) dX11_foretold_43 (by decide) ?_
        exact a_iret dX11_foretold_44 rfl rfl (by decide) (by decide)
      · refine a_iload dX11_foretold_33 7 rfl ?_
        refine a_iconst (v := 0) dX11_foretold_35 (by decide) ?_
        refine a_iconst (v := 3) dX11_foretold_36 (by decide) ?_
        refine a_cS_Pi (as := [.int p7, .int 0, .int 3]) (st := []) dX11_foretold_37 (c_X11_within l g h0 p7 0 3) rfl km_X11_within (hm_X11_within) w_methodLink_RainCover_120 w_static_RainCover_within__III_Z ⟨⟨by decide, by decide⟩, ⟨by decide, by decide⟩⟩ (Nat.le_of_ble_eq_true rfl) (fun v7 => ?_)
        refine a_if_ne 45 dX11_foretold_40 (by decide) (fun c8 => ?_) (fun c8 => ?_)
        · refine a_iconst (v := (-1)) dX11_foretold_43 (by decide) ?_
          exact a_iret dX11_foretold_44 rfl rfl (by decide) (by decide)
        · refine a_iconst (v := 0) dX11_foretold_45 (by decide) ?_
          refine a_istore (lc2 := [(8, .int 0), (0, .ref p0), (1, .int p1), (2, .int p2), (3, .int p3), (4, .int p4), (5, .int p5), (6, .int p6), (7, .int p7)]) dX11_foretold_46 (by decide) rfl ?_
          refine a_iconst (v := 0) dX11_foretold_48 (by decide) ?_
          refine a_istore (lc2 := [(9, .int 0), (8, .int 0), (0, .ref p0), (1, .int p1), (2, .int p2), (3, .int p3), (4, .int p4), (5, .int p5), (6, .int p6), (7, .int p7)]) dX11_foretold_49 (by decide) rfl ?_
          refine a_iconst (v := 0) dX11_foretold_51 (by decide) ?_
          refine a_istore (lc2 := [(10, .int 0), (9, .int 0), (8, .int 0), (0, .ref p0), (1, .int p1), (2, .int p2), (3, .int p3), (4, .int p4), (5, .int p5), (6, .int p6), (7, .int p7)]) dX11_foretold_52 (by decide) rfl ?_
          refine a_iconst (v := 0) dX11_foretold_54 (by decide) ?_
          refine a_istore (lc2 := [(11, .int 0), (10, .int 0), (9, .int 0), (8, .int 0), (0, .ref p0), (1, .int p1), (2, .int p2), (3, .int p3), (4, .int p4), (5, .int p5), (6, .int p6), (7, .int p7)]) dX11_foretold_55 (by decide) rfl ?_
          refine a_iconst (v := 0) dX11_foretold_57 (by decide) ?_
          refine a_istore (lc2 := [(12, .int 0), (11, .int 0), (10, .int 0), (9, .int 0), (8, .int 0), (0, .ref p0), (1, .int p1), (2, .int p2), (3, .int p3), (4, .int p4), (5, .int p5), (6, .int p6), (7, .int p7)]) dX11_foretold_58 (by decide) rfl ?_
          refine a_pick (lc2 := [(0, .ref p0), (1, .int p1), (2, .int p2), (3, .int p3), (4, .int p4), (5, .int p5), (6, .int p6), (7, .int p7), (8, .int 0), (9, .int 0), (10, .int 0), (11, .int 0), (12, .int 0)]) [5, 6, 7, 8, 9, 10, 11, 12, 4, 3, 2, 1, 0] rfl ?_
          exact t_X11_foretold_b60 h0 N N h0 p0 p1 p2 p3 p4 p5 p6 p7 0 0 0 0 0
