theorem dX12_filled_0 : decode cX12_filled 0 = .ok (.aload_n 0, 1) := by decide +kernel
theorem dX12_filled_1 : decode cX12_filled 1 = .ok (.iload_n 1, 1) := by decide +kernel
theorem dX12_filled_2 : decode cX12_filled 2 = .ok (.iload_n 2, 1) := by decide +kernel
theorem dX12_filled_3 : decode cX12_filled 3 = .ok (.iload_n 3, 1) := by decide +kernel
theorem dX12_filled_4 : decode cX12_filled 4 = .ok (.iload 4, 2) := by decide +kernel
theorem dX12_filled_6 : decode cX12_filled 6 = .ok (.invokevirtual 249, 3) := by decide +kernel
theorem dX12_filled_9 : decode cX12_filled 9 = .ok (.ifCond .eq 19, 3) := by decide +kernel
theorem dX12_filled_12 : decode cX12_filled 12 = .ok (.aload_n 0, 1) := by decide +kernel
theorem dX12_filled_13 : decode cX12_filled 13 = .ok (.aload_n 0, 1) := by decide +kernel
theorem dX12_filled_14 : decode cX12_filled 14 = .ok (.iload 4, 2) := by decide +kernel
theorem dX12_filled_16 : decode cX12_filled 16 = .ok (.invokevirtual 242, 3) := by decide +kernel
theorem dX12_filled_19 : decode cX12_filled 19 = .ok (.iload_n 1, 1) := by decide +kernel
theorem dX12_filled_20 : decode cX12_filled 20 = .ok (.iload_n 2, 1) := by decide +kernel
theorem dX12_filled_21 : decode cX12_filled 21 = .ok (.iload_n 3, 1) := by decide +kernel
theorem dX12_filled_22 : decode cX12_filled 22 = .ok (.invokevirtual 267, 3) := by decide +kernel
theorem dX12_filled_25 : decode cX12_filled 25 = .ok (.goto 5, 3) := by decide +kernel
theorem dX12_filled_28 : decode cX12_filled 28 = .ok (.bipush (-5), 2) := by decide +kernel
theorem dX12_filled_30 : decode cX12_filled 30 = .ok (.ireturn, 1) := by decide +kernel
abbrev M_X12_filled : MI := (RX12, cX12_filled, 5, (some .int), ({ frames := 4, cells := 0, slots := 0, locals := 95 } : Room), 0, 0, false)
def f_X12_filled (h0 : AH) (N : Nat) (p0 : Nat) (p1 : Int32) (p2 : Int32) (p3 : Int32) (p4 : Int32) : Option (Int32 × AH) := if kd h0 p0 = 13 + 1 then (f_X12_isTold h0 p0 p1 p2 p3 p4).bind fun v1 => (if v1 = 0 then some ((-5), h0) else (f_X12_known h0 N p0 p4).bind fun q3 => (f_X12_filledOf q3.2 N p0 q3.1 p1 p2 p3).bind fun v4 => some (v4, q3.2)) else none
theorem g_X12_filled {h0 : AH} {N : Nat} {p0 : Nat} {p1 : Int32} {p2 : Int32} {p3 : Int32} {p4 : Int32} {x : (Int32 × AH)} (e : f_X12_filled h0 N p0 p1 p2 p3 p4 = some x) : kd h0 p0 = 13 + 1 := by
  unfold f_X12_filled at e
  by_cases hk : kd h0 p0 = 13 + 1
  · exact hk
  · rw [if_neg hk] at e
    cases e
theorem km_X12_filled : KM yX12_filled M_X12_filled 4 := ⟨in_tb 1501 (by decide +kernel) rfl, in_tb 9 (by decide +kernel) rfl, by decide +kernel, rfl, rfl⟩
theorem hm_X12_filled : M_X12_filled.2.2.2.2.2.1 = 0 ∧ M_X12_filled.2.2.2.2.2.2.1 = 0 := ⟨rfl, rfl⟩
section
variable {l : Launch} {g : GG}
end
set_option maxRecDepth 100000 in
set_option maxHeartbeats 4000000 in
theorem c_X12_filled (l : Launch) (g : GG) (h0 : AH) (N : Nat) (p0 : Nat) (p1 : Int32) (p2 : Int32) (p3 : Int32) (p4 : Int32) : CN l g yX12_filled M_X12_filled false [.ref p0, .int p1, .int p2, .int p3, .int p4] h0 rSi (f_X12_filled h0 N p0 p1 p2 p3 p4) := by
  refine CN.of (by decide) rfl (fun hh => by first | rfl | cases hh) (Nat.le_of_ble_eq_true rfl) ?_
  unfold f_X12_filled
  refine a_gd (fun hkd => ?_)
  refine a_aload_n dX12_filled_0 rfl 0 rfl ?_
  refine a_iload_n dX12_filled_1 rfl 1 rfl ?_
  refine a_iload_n dX12_filled_2 rfl 2 rfl ?_
  refine a_iload_n dX12_filled_3 rfl 3 rfl ?_
  refine a_iload dX12_filled_4 4 rfl ?_
  refine a_cV_Pi (r := p0) (ci := 13) (as := [.int p1, .int p2, .int p3, .int p4]) (st := []) dX12_filled_6 (c_X12_isTold l g h0 p0 p1 p2 p3 p4) rfl km_X12_isTold (hm_X12_isTold) rfl (by decide) rfl (fun _ ee => g_X12_isTold ee) w_methodLink_RainCoverModel_249 w_instanceMethod_RainCoverModel_isTold__IIII_Z w_selects_RainCoverModel_RainCoverModel_isTold__IIII_Z_RainCoverModel_isTold__IIII_Z ⟨⟨by decide, by decide⟩, ⟨by decide, by decide⟩⟩ (Nat.le_of_ble_eq_true rfl) (fun v1 => ?_)
  refine a_if_eq 28 dX12_filled_9 (by decide) (fun c2 => ?_) (fun c2 => ?_)
  · refine a_bipush (v := (-5)) dX12_filled_28 (by decide) ?_
    exact a_iret dX12_filled_30 rfl rfl (by decide) (by decide)
  · refine a_aload_n dX12_filled_12 rfl 0 rfl ?_
    refine a_aload_n dX12_filled_13 rfl 0 rfl ?_
    refine a_iload dX12_filled_14 4 rfl ?_
    refine a_cV_Si (r := p0) (ci := 13) (as := [.int p4]) (st := [.ref p0]) dX12_filled_16 (c_X12_known l g h0 N p0 p4) rfl km_X12_known (hm_X12_known) rfl (by decide) rfl (fun _ ee => g_X12_known ee) w_methodLink_RainCoverModel_242 w_instanceMethod_RainCoverModel_known__I_I w_selects_RainCoverModel_RainCoverModel_known__I_I_RainCoverModel_known__I_I ⟨⟨by decide, by decide⟩, ⟨by decide, by decide⟩⟩ (Nat.le_of_ble_eq_true rfl) (fun q3 => ?_)
    refine a_iload_n dX12_filled_19 rfl 1 rfl ?_
    refine a_iload_n dX12_filled_20 rfl 2 rfl ?_
    refine a_iload_n dX12_filled_21 rfl 3 rfl ?_
    refine a_cV_Pi (r := p0) (ci := 13) (as := [.int q3.1, .int p1, .int p2, .int p3]) (st := []) dX12_filled_22 (c_X12_filledOf l g q3.2 N p0 q3.1 p1 p2 p3) rfl km_X12_filledOf (hm_X12_filledOf) rfl (by decide) rfl (fun _ ee => g_X12_filledOf ee) w_methodLink_RainCoverModel_267 w_instanceMethod_RainCoverModel_filledOf__IIII_I w_selects_RainCoverModel_RainCoverModel_filledOf__IIII_I_RainCoverModel_filledOf__IIII_I ⟨⟨by decide, by decide⟩, ⟨by decide, by decide⟩⟩ (Nat.le_of_ble_eq_true rfl) (fun v4 => ?_)
    refine a_goto 30 dX12_filled_25 (by decide) ?_
    exact a_iret dX12_filled_30 rfl rfl (by decide) (by decide)
theorem dX12_edge_0 : decode cX12_edge 0 = .ok (.iconst (-1), 1) := by decide +kernel
theorem dX12_edge_1 : decode cX12_edge 1 = .ok (.istore 5, 2) := by decide +kernel
theorem dX12_edge_3 : decode cX12_edge 3 = .ok (.iconst 0, 1) := by decide +kernel
theorem dX12_edge_4 : decode cX12_edge 4 = .ok (.istore 6, 2) := by decide +kernel
theorem dX12_edge_6 : decode cX12_edge 6 = .ok (.iload 6, 2) := by decide +kernel
theorem dX12_edge_8 : decode cX12_edge 8 = .ok (.aload_n 0, 1) := by decide +kernel
theorem dX12_edge_9 : decode cX12_edge 9 = .ok (.getfield 208, 3) := by decide +kernel
theorem dX12_edge_12 : decode cX12_edge 12 = .ok (.if_icmp .ge 85, 3) := by decide +kernel
theorem dX12_edge_15 : decode cX12_edge 15 = .ok (.aload_n 0, 1) := by decide +kernel
theorem dX12_edge_16 : decode cX12_edge 16 = .ok (.iconst 0, 1) := by decide +kernel
theorem dX12_edge_17 : decode cX12_edge 17 = .ok (.iload 6, 2) := by decide +kernel
theorem dX12_edge_19 : decode cX12_edge 19 = .ok (.iload_n 2, 1) := by decide +kernel
theorem dX12_edge_20 : decode cX12_edge 20 = .ok (.iload_n 3, 1) := by decide +kernel
theorem dX12_edge_21 : decode cX12_edge 21 = .ok (.invokevirtual 253, 3) := by decide +kernel
theorem dX12_edge_24 : decode cX12_edge 24 = .ok (.istore 7, 2) := by decide +kernel
theorem dX12_edge_26 : decode cX12_edge 26 = .ok (.iload 5, 2) := by decide +kernel
theorem dX12_edge_28 : decode cX12_edge 28 = .ok (.iconst (-1), 1) := by decide +kernel
theorem dX12_edge_29 : decode cX12_edge 29 = .ok (.if_icmp .eq 25, 3) := by decide +kernel
theorem dX12_edge_32 : decode cX12_edge 32 = .ok (.iload 4, 2) := by decide +kernel
theorem dX12_edge_34 : decode cX12_edge 34 = .ok (.ifCond .ne 13, 3) := by decide +kernel
theorem dX12_edge_37 : decode cX12_edge 37 = .ok (.iload 7, 2) := by decide +kernel
theorem dX12_edge_39 : decode cX12_edge 39 = .ok (.iload 5, 2) := by decide +kernel
theorem dX12_edge_41 : decode cX12_edge 41 = .ok (.if_icmp .ge 17, 3) := by decide +kernel
theorem dX12_edge_44 : decode cX12_edge 44 = .ok (.goto 10, 3) := by decide +kernel
theorem dX12_edge_47 : decode cX12_edge 47 = .ok (.iload 7, 2) := by decide +kernel
theorem dX12_edge_49 : decode cX12_edge 49 = .ok (.iload 5, 2) := by decide +kernel
theorem dX12_edge_51 : decode cX12_edge 51 = .ok (.if_icmp .le 7, 3) := by decide +kernel
theorem dX12_edge_54 : decode cX12_edge 54 = .ok (.iconst 1, 1) := by decide +kernel
theorem dX12_edge_55 : decode cX12_edge 55 = .ok (.goto 4, 3) := by decide +kernel
theorem dX12_edge_58 : decode cX12_edge 58 = .ok (.iconst 0, 1) := by decide +kernel
theorem dX12_edge_59 : decode cX12_edge 59 = .ok (.istore 8, 2) := by decide +kernel
theorem dX12_edge_61 : decode cX12_edge 61 = .ok (.aload_n 0, 1) := by decide +kernel
theorem dX12_edge_62 : decode cX12_edge 62 = .ok (.iload_n 1, 1) := by decide +kernel
theorem dX12_edge_63 : decode cX12_edge 63 = .ok (.iload 6, 2) := by decide +kernel
theorem dX12_edge_65 : decode cX12_edge 65 = .ok (.invokevirtual 264, 3) := by decide +kernel
theorem dX12_edge_68 : decode cX12_edge 68 = .ok (.ifCond .eq 19, 3) := by decide +kernel
theorem dX12_edge_71 : decode cX12_edge 71 = .ok (.iload 7, 2) := by decide +kernel
theorem dX12_edge_73 : decode cX12_edge 73 = .ok (.iconst (-1), 1) := by decide +kernel
theorem dX12_edge_74 : decode cX12_edge 74 = .ok (.if_icmp .eq 13, 3) := by decide +kernel
theorem dX12_edge_77 : decode cX12_edge 77 = .ok (.iload 8, 2) := by decide +kernel
theorem dX12_edge_79 : decode cX12_edge 79 = .ok (.ifCond .eq 8, 3) := by decide +kernel
theorem dX12_edge_82 : decode cX12_edge 82 = .ok (.iload 7, 2) := by decide +kernel
theorem dX12_edge_84 : decode cX12_edge 84 = .ok (.goto 5, 3) := by decide +kernel
theorem dX12_edge_87 : decode cX12_edge 87 = .ok (.iload 5, 2) := by decide +kernel
theorem dX12_edge_89 : decode cX12_edge 89 = .ok (.istore 5, 2) := by decide +kernel
theorem dX12_edge_91 : decode cX12_edge 91 = .ok (.iinc 6 1, 3) := by decide +kernel
theorem dX12_edge_94 : decode cX12_edge 94 = .ok (.goto (-88), 3) := by decide +kernel
theorem dX12_edge_97 : decode cX12_edge 97 = .ok (.iload 5, 2) := by decide +kernel
theorem dX12_edge_99 : decode cX12_edge 99 = .ok (.ireturn, 1) := by decide +kernel
abbrev M_X12_edge : MI := (RX12, cX12_edge, 9, (some .int), ({ frames := 3, cells := 0, slots := 0, locals := 65 } : Room), 0, 0, false)
def f_X12_edge_b89 (h : AH) (N : Nat) (K6 : Nat → Int32 → Int32 → Int32 → Int32 → Int32 → Int32 → Option Int32) (x0 : Nat) (x1 : Int32) (x2 : Int32) (x3 : Int32) (x4 : Int32) (x6 : Int32) (s6 : Int32) : Option Int32 := K6 x0 x1 x2 x3 x4 s6 (x6 + 1)
def f_X12_edge_b87 (h : AH) (N : Nat) (K6 : Nat → Int32 → Int32 → Int32 → Int32 → Int32 → Int32 → Option Int32) (x0 : Nat) (x1 : Int32) (x2 : Int32) (x3 : Int32) (x4 : Int32) (x5 : Int32) (x6 : Int32) : Option Int32 := f_X12_edge_b89 h N K6 x0 x1 x2 x3 x4 x6 x5
def f_X12_edge_b59 (h : AH) (N : Nat) (K6 : Nat → Int32 → Int32 → Int32 → Int32 → Int32 → Int32 → Option Int32) (x0 : Nat) (x1 : Int32) (x2 : Int32) (x3 : Int32) (x4 : Int32) (x5 : Int32) (x6 : Int32) (x7 : Int32) (s8 : Int32) : Option Int32 := (f_X12_areNear h x0 x1 x6).bind fun v8 => (if v8 = 0 then f_X12_edge_b87 h N K6 x0 x1 x2 x3 x4 x5 x6 else (if x7 = (-1) then f_X12_edge_b87 h N K6 x0 x1 x2 x3 x4 x5 x6 else (if s8 = 0 then f_X12_edge_b87 h N K6 x0 x1 x2 x3 x4 x5 x6 else f_X12_edge_b89 h N K6 x0 x1 x2 x3 x4 x6 x7)))
def f_X12_edge_b54 (h : AH) (N : Nat) (K6 : Nat → Int32 → Int32 → Int32 → Int32 → Int32 → Int32 → Option Int32) (x0 : Nat) (x1 : Int32) (x2 : Int32) (x3 : Int32) (x4 : Int32) (x5 : Int32) (x6 : Int32) (x7 : Int32) : Option Int32 := f_X12_edge_b59 h N K6 x0 x1 x2 x3 x4 x5 x6 x7 1
def f_X12_edge_b58 (h : AH) (N : Nat) (K6 : Nat → Int32 → Int32 → Int32 → Int32 → Int32 → Int32 → Option Int32) (x0 : Nat) (x1 : Int32) (x2 : Int32) (x3 : Int32) (x4 : Int32) (x5 : Int32) (x6 : Int32) (x7 : Int32) : Option Int32 := f_X12_edge_b59 h N K6 x0 x1 x2 x3 x4 x5 x6 x7 0
def f_X12_edge_b6_body (h : AH) (N : Nat) (K6 : Nat → Int32 → Int32 → Int32 → Int32 → Int32 → Int32 → Option Int32) (x0 : Nat) (x1 : Int32) (x2 : Int32) (x3 : Int32) (x4 : Int32) (x5 : Int32) (x6 : Int32) : Option Int32 := (xgi h x0 13 0).bind fun v1 => (if v1 ≤ x6 then some x5 else (f_X12_rainOf h x0 0 x6 x2 x3).bind fun v3 => (if x5 = (-1) then f_X12_edge_b54 h N K6 x0 x1 x2 x3 x4 x5 x6 v3 else (if x4 = 0 then (if x5 ≤ v3 then f_X12_edge_b58 h N K6 x0 x1 x2 x3 x4 x5 x6 v3 else f_X12_edge_b54 h N K6 x0 x1 x2 x3 x4 x5 x6 v3) else (if v3 ≤ x5 then f_X12_edge_b58 h N K6 x0 x1 x2 x3 x4 x5 x6 v3 else f_X12_edge_b54 h N K6 x0 x1 x2 x3 x4 x5 x6 v3))))
def f_X12_edge_b6 (h : AH) (N : Nat) : Nat → Nat → Int32 → Int32 → Int32 → Int32 → Int32 → Int32 → Option Int32
  | 0, _, _, _, _, _, _, _ => none
  | n + 1, x0, x1, x2, x3, x4, x5, x6 => f_X12_edge_b6_body h N  (f_X12_edge_b6 h N  n) x0 x1 x2 x3 x4 x5 x6
def f_X12_edge (h : AH) (N : Nat) (p0 : Nat) (p1 : Int32) (p2 : Int32) (p3 : Int32) (p4 : Int32) : Option Int32 := if kd h p0 = 13 + 1 then f_X12_edge_b6 h N N p0 p1 p2 p3 p4 (-1) 0 else none
theorem g_X12_edge {h : AH} {N : Nat} {p0 : Nat} {p1 : Int32} {p2 : Int32} {p3 : Int32} {p4 : Int32} {x : Int32} (e : f_X12_edge h N p0 p1 p2 p3 p4 = some x) : kd h p0 = 13 + 1 := by
  unfold f_X12_edge at e
  by_cases hk : kd h p0 = 13 + 1
  · exact hk
  · rw [if_neg hk] at e
    cases e
theorem km_X12_edge : KM yX12_edge M_X12_edge 4 := ⟨in_tb 1524 (by decide +kernel) rfl, in_tb 9 (by decide +kernel) rfl, by decide +kernel, rfl, rfl⟩
theorem hm_X12_edge : M_X12_edge.2.2.2.2.2.1 = 0 ∧ M_X12_edge.2.2.2.2.2.2.1 = 0 := ⟨rfl, rfl⟩
section
variable {l : Launch} {g : GG}
set_option maxRecDepth 100000 in
set_option maxHeartbeats 4000000 in
theorem t_X12_edge_b89 (h : AH) (N : Nat) (K6 : Nat → Int32 → Int32 → Int32 → Int32 → Int32 → Int32 → Option Int32) (hK6 : ∀ (z0 : Nat) (z1 : Int32) (z2 : Int32) (z3 : Int32) (z4 : Int32) (z5 : Int32) (z6 : Int32), AO l g M_X12_edge false h 6 [(0, .ref z0), (1, .int z1), (2, .int z2), (3, .int z3), (4, .int z4), (5, .int z5), (6, .int z6)] [] h 0 0 (rPi h) (K6 z0 z1 z2 z3 z4 z5 z6)) (x0 : Nat) (x1 : Int32) (x2 : Int32) (x3 : Int32) (x4 : Int32) (x6 : Int32) (s6 : Int32) : AO l g M_X12_edge false h 89 [(0, .ref x0), (1, .int x1), (2, .int x2), (3, .int x3), (4, .int x4), (6, .int x6)] [.int s6] h 0 0 (rPi h) (f_X12_edge_b89 h N K6 x0 x1 x2 x3 x4 x6 s6) := by
  unfold f_X12_edge_b89
  refine a_istore (lc2 := [(5, .int s6), (0, .ref x0), (1, .int x1), (2, .int x2), (3, .int x3), (4, .int x4), (6, .int x6)]) dX12_edge_89 (by decide) rfl ?_
  refine a_iinc (q := 6) (v := (x6 + 1)) (lc2 := [(6, .int (x6 + 1)), (5, .int s6), (0, .ref x0), (1, .int x1), (2, .int x2), (3, .int x3), (4, .int x4)]) dX12_edge_91 rfl rfl (by decide) rfl ?_
  refine a_goto 6 dX12_edge_94 (by decide) ?_
  refine a_pick (lc2 := [(0, .ref x0), (1, .int x1), (2, .int x2), (3, .int x3), (4, .int x4), (5, .int s6), (6, .int (x6 + 1))]) [2, 3, 4, 5, 6, 1, 0] rfl ?_
  exact hK6 x0 x1 x2 x3 x4 s6 (x6 + 1)
set_option maxRecDepth 100000 in
set_option maxHeartbeats 4000000 in
theorem t_X12_edge_b87 (h : AH) (N : Nat) (K6 : Nat → Int32 → Int32 → Int32 → Int32 → Int32 → Int32 → Option Int32) (hK6 : ∀ (z0 : Nat) (z1 : Int32) (z2 : Int32) (z3 : Int32) (z4 : Int32) (z5 : Int32) (z6 : Int32), AO l g M_X12_edge false h 6 [(0, .ref z0), (1, .int z1), (2, .int z2), (3, .int z3), (4, .int z4), (5, .int z5), (6, .int z6)] [] h 0 0 (rPi h) (K6 z0 z1 z2 z3 z4 z5 z6)) (x0 : Nat) (x1 : Int32) (x2 : Int32) (x3 : Int32) (x4 : Int32) (x5 : Int32) (x6 : Int32) : AO l g M_X12_edge false h 87 [(0, .ref x0), (1, .int x1), (2, .int x2), (3, .int x3), (4, .int x4), (5, .int x5), (6, .int x6)] [] h 0 0 (rPi h) (f_X12_edge_b87 h N K6 x0 x1 x2 x3 x4 x5 x6) := by
  unfold f_X12_edge_b87
  refine a_iload dX12_edge_87 5 rfl ?_
  refine a_pick (lc2 := [(0, .ref x0), (1, .int x1), (2, .int x2), (3, .int x3), (4, .int x4), (6, .int x6)]) [0, 1, 2, 3, 4, 6] rfl ?_
  exact t_X12_edge_b89 h N K6 hK6 x0 x1 x2 x3 x4 x6 x5
set_option maxRecDepth 100000 in
set_option maxHeartbeats 4000000 in
theorem t_X12_edge_b59 (h : AH) (N : Nat) (K6 : Nat → Int32 → Int32 → Int32 → Int32 → Int32 → Int32 → Option Int32) (hK6 : ∀ (z0 : Nat) (z1 : Int32) (z2 : Int32) (z3 : Int32) (z4 : Int32) (z5 : Int32) (z6 : Int32), AO l g M_X12_edge false h 6 [(0, .ref z0), (1, .int z1), (2, .int z2), (3, .int z3), (4, .int z4), (5, .int z5), (6, .int z6)] [] h 0 0 (rPi h) (K6 z0 z1 z2 z3 z4 z5 z6)) (x0 : Nat) (x1 : Int32) (x2 : Int32) (x3 : Int32) (x4 : Int32) (x5 : Int32) (x6 : Int32) (x7 : Int32) (s8 : Int32) : AO l g M_X12_edge false h 59 [(0, .ref x0), (1, .int x1), (2, .int x2), (3, .int x3), (4, .int x4), (5, .int x5), (6, .int x6), (7, .int x7)] [.int s8] h 0 0 (rPi h) (f_X12_edge_b59 h N K6 x0 x1 x2 x3 x4 x5 x6 x7 s8) := by
  unfold f_X12_edge_b59
  refine a_istore (lc2 := [(8, .int s8), (0, .ref x0), (1, .int x1), (2, .int x2), (3, .int x3), (4, .int x4), (5, .int x5), (6, .int x6), (7, .int x7)]) dX12_edge_59 (by decide) rfl ?_
  refine a_aload_n dX12_edge_61 rfl 1 rfl ?_
  refine a_iload_n dX12_edge_62 rfl 2 rfl ?_
  refine a_iload dX12_edge_63 7 rfl ?_
  refine a_cV_Pi (r := x0) (ci := 13) (as := [.int x1, .int x6]) (st := []) dX12_edge_65 (c_X12_areNear l g h x0 x1 x6) rfl km_X12_areNear (hm_X12_areNear) rfl (by decide) rfl (fun _ ee => g_X12_areNear ee) w_methodLink_RainCoverModel_264 w_instanceMethod_RainCoverModel_areNear__II_Z w_selects_RainCoverModel_RainCoverModel_areNear__II_Z_RainCoverModel_areNear__II_Z ⟨⟨by decide, by decide⟩, ⟨by decide, by decide⟩⟩ (Nat.le_of_ble_eq_true rfl) (fun v8 => ?_)
  refine a_if_eq 87 dX12_edge_68 (by decide) (fun c9 => ?_) (fun c9 => ?_)
  · refine a_pick (lc2 := [(0, .ref x0), (1, .int x1), (2, .int x2), (3, .int x3), (4, .int x4), (5, .int x5), (6, .int x6)]) [1, 2, 3, 4, 5, 6, 7] rfl ?_
    exact t_X12_edge_b87 h N K6 hK6 x0 x1 x2 x3 x4 x5 x6
  · refine a_iload dX12_edge_71 8 rfl ?_
    refine a_iconst (v := (-1)) dX12_edge_73 (by decide) ?_
    refine a_icmp_eq 87 dX12_edge_74 (by decide) (fun c10 => ?_) (fun c10 => ?_)
    · refine a_pick (lc2 := [(0, .ref x0), (1, .int x1), (2, .int x2), (3, .int x3), (4, .int x4), (5, .int x5), (6, .int x6)]) [1, 2, 3, 4, 5, 6, 7] rfl ?_
      exact t_X12_edge_b87 h N K6 hK6 x0 x1 x2 x3 x4 x5 x6
    · refine a_iload dX12_edge_77 0 rfl ?_
      refine a_if_eq 87 dX12_edge_79 (by decide) (fun c11 => ?_) (fun c11 => ?_)
      · refine a_pick (lc2 := [(0, .ref x0), (1, .int x1), (2, .int x2), (3, .int x3), (4, .int x4), (5, .int x5), (6, .int x6)]) [1, 2, 3, 4, 5, 6, 7] rfl ?_
        exact t_X12_edge_b87 h N K6 hK6 x0 x1 x2 x3 x4 x5 x6
      · refine a_iload dX12_edge_82 8 rfl ?_
        refine a_goto 89 dX12_edge_84 (by decide) ?_
        refine a_pick (lc2 := [(0, .ref x0), (1, .int x1), (2, .int x2), (3, .int x3), (4, .int x4), (6, .int x6)]) [1, 2, 3, 4, 5, 7] rfl ?_
        exact t_X12_edge_b89 h N K6 hK6 x0 x1 x2 x3 x4 x6 x7
set_option maxRecDepth 100000 in
set_option maxHeartbeats 4000000 in
theorem t_X12_edge_b54 (h : AH) (N : Nat) (K6 : Nat → Int32 → Int32 → Int32 → Int32 → Int32 → Int32 → Option Int32) (hK6 : ∀ (z0 : Nat) (z1 : Int32) (z2 : Int32) (z3 : Int32) (z4 : Int32) (z5 : Int32) (z6 : Int32), AO l g M_X12_edge false h 6 [(0, .ref z0), (1, .int z1), (2, .int z2), (3, .int z3), (4, .int z4), (5, .int z5), (6, .int z6)] [] h 0 0 (rPi h) (K6 z0 z1 z2 z3 z4 z5 z6)) (x0 : Nat) (x1 : Int32) (x2 : Int32) (x3 : Int32) (x4 : Int32) (x5 : Int32) (x6 : Int32) (x7 : Int32) : AO l g M_X12_edge false h 54 [(0, .ref x0), (1, .int x1), (2, .int x2), (3, .int x3), (4, .int x4), (5, .int x5), (6, .int x6), (7, .int x7)] [] h 0 0 (rPi h) (f_X12_edge_b54 h N K6 x0 x1 x2 x3 x4 x5 x6 x7) := by
  unfold f_X12_edge_b54
  refine a_iconst (v := 1) dX12_edge_54 (by decide) ?_
  refine a_goto 59 dX12_edge_55 (by decide) ?_
  exact t_X12_edge_b59 h N K6 hK6 x0 x1 x2 x3 x4 x5 x6 x7 1
set_option maxRecDepth 100000 in
set_option maxHeartbeats 4000000 in
theorem t_X12_edge_b58 (h : AH) (N : Nat) (K6 : Nat → Int32 → Int32 → Int32 → Int32 → Int32 → Int32 → Option Int32) (hK6 : ∀ (z0 : Nat) (z1 : Int32) (z2 : Int32) (z3 : Int32) (z4 : Int32) (z5 : Int32) (z6 : Int32), AO l g M_X12_edge false h 6 [(0, .ref z0), (1, .int z1), (2, .int z2), (3, .int z3), (4, .int z4), (5, .int z5), (6, .int z6)] [] h 0 0 (rPi h) (K6 z0 z1 z2 z3 z4 z5 z6)) (x0 : Nat) (x1 : Int32) (x2 : Int32) (x3 : Int32) (x4 : Int32) (x5 : Int32) (x6 : Int32) (x7 : Int32) : AO l g M_X12_edge false h 58 [(0, .ref x0), (1, .int x1), (2, .int x2), (3, .int x3), (4, .int x4), (5, .int x5), (6, .int x6), (7, .int x7)] [] h 0 0 (rPi h) (f_X12_edge_b58 h N K6 x0 x1 x2 x3 x4 x5 x6 x7) := by
  unfold f_X12_edge_b58
  refine a_iconst (v := 0) dX12_edge_58 (by decide) ?_
  exact t_X12_edge_b59 h N K6 hK6 x0 x1 x2 x3 x4 x5 x6 x7 0
set_option maxRecDepth 100000 in
set_option maxHeartbeats 4000000 in
theorem t_X12_edge_b6_body (h : AH) (N : Nat) (K6 : Nat → Int32 → Int32 → Int32 → Int32 → Int32 → Int32 → Option Int32) (hK6 : ∀ (z0 : Nat) (z1 : Int32) (z2 : Int32) (z3 : Int32) (z4 : Int32) (z5 : Int32) (z6 : Int32), AO l g M_X12_edge false h 6 [(0, .ref z0), (1, .int z1), (2, .int z2), (3, .int z3), (4, .int z4), (5, .int z5), (6, .int z6)] [] h 0 0 (rPi h) (K6 z0 z1 z2 z3 z4 z5 z6)) (x0 : Nat) (x1 : Int32) (x2 : Int32) (x3 : Int32) (x4 : Int32) (x5 : Int32) (x6 : Int32) : AO l g M_X12_edge false h 6 [(0, .ref x0), (1, .int x1), (2, .int x2), (3, .int x3), (4, .int x4), (5, .int x5), (6, .int x6)] [] h 0 0 (rPi h) (f_X12_edge_b6_body h N K6 x0 x1 x2 x3 x4 x5 x6) := by
  unfold f_X12_edge_b6_body
  refine a_iload dX12_edge_6 6 rfl ?_
  refine a_aload_n dX12_edge_8 rfl 0 rfl ?_
  refine a_geti kc13 0 dX12_edge_9 (by decide) rfl w_fieldLink_RainCoverModel_208 (fun v1 => ?_)
  refine a_icmp_ge 97 dX12_edge_12 (by decide) (fun c2 => ?_) (fun c2 => ?_)
  · refine a_iload dX12_edge_97 5 rfl ?_
    exact a_iret dX12_edge_99 rfl rfl (by decide) (by decide)
  · refine a_aload_n dX12_edge_15 rfl 0 rfl ?_
    refine a_iconst (v := 0) dX12_edge_16 (by decide) ?_
    refine a_iload dX12_edge_17 6 rfl ?_
    refine a_iload_n dX12_edge_19 rfl 2 rfl ?_
    refine a_iload_n dX12_edge_20 rfl 3 rfl ?_
    refine a_cV_Pi (r := x0) (ci := 13) (as := [.int 0, .int x6, .int x2, .int x3]) (st := []) dX12_edge_21 (c_X12_rainOf l g h x0 0 x6 x2 x3) rfl km_X12_rainOf (hm_X12_rainOf) rfl (by decide) rfl (fun _ ee => g_X12_rainOf ee) w_methodLink_RainCoverModel_253 w_instanceMethod_RainCoverModel_rainOf__IIII_I w_selects_RainCoverModel_RainCoverModel_rainOf__IIII_I_RainCoverModel_rainOf__IIII_I ⟨⟨by decide, by decide⟩, ⟨by decide, by decide⟩⟩ (Nat.le_of_ble_eq_true rfl) (fun v3 => ?_)
    refine a_istore (lc2 := [(7, .int v3), (0, .ref x0), (1, .int x1), (2, .int x2), (3, .int x3), (4, .int x4), (5, .int x5), (6, .int x6)]) dX12_edge_24 (by decide) rfl ?_
    refine a_iload dX12_edge_26 6 rfl ?_
    refine a_iconst (v := (-1)) dX12_edge_28 (by decide) ?_
    refine a_icmp_eq 54 dX12_edge_29 (by decide) (fun c4 => ?_) (fun c4 => ?_)
    · refine a_pick (lc2 := [(0, .ref x0), (1, .int x1), (2, .int x2), (3, .int x3), (4, .int x4), (5, .int x5), (6, .int x6), (7, .int v3)]) [1, 2, 3, 4, 5, 6, 7, 0] rfl ?_
      exact t_X12_edge_b54 h N K6 hK6 x0 x1 x2 x3 x4 x5 x6 v3
    · refine a_iload dX12_edge_32 5 rfl ?_
      refine a_if_ne 47 dX12_edge_34 (by decide) (fun c5 => ?_) (fun c5 => ?_)
      · refine a_iload dX12_edge_37 0 rfl ?_
        refine a_iload dX12_edge_39 6 rfl ?_
        refine a_icmp_ge 58 dX12_edge_41 (by decide) (fun c6 => ?_) (fun c6 => ?_)
        · refine a_pick (lc2 := [(0, .ref x0), (1, .int x1), (2, .int x2), (3, .int x3), (4, .int x4), (5, .int x5), (6, .int x6), (7, .int v3)]) [1, 2, 3, 4, 5, 6, 7, 0] rfl ?_
          exact t_X12_edge_b58 h N K6 hK6 x0 x1 x2 x3 x4 x5 x6 v3
        · refine a_goto 54 dX12_edge_44 (by decide) ?_
          refine a_pick (lc2 := [(0, .ref x0), (1, .int x1), (2, .int x2), (3, .int x3), (4, .int x4), (5, .int x5), (6, .int x6), (7, .int v3)]) [1, 2, 3, 4, 5, 6, 7, 0] rfl ?_
          exact t_X12_edge_b54 h N K6 hK6 x0 x1 x2 x3 x4 x5 x6 v3
      · refine a_iload dX12_edge_47 0 rfl ?_
        refine a_iload dX12_edge_49 6 rfl ?_
        refine a_icmp_le 58 dX12_edge_51 (by decide) (fun c7 => ?_) (fun c7 => ?_)
        · refine a_pick (lc2 := [(0, .ref x0), (1, .int x1), (2, .int x2), (3, .int x3), (4, .int x4), (5, .int x5), (6, .int x6), (7, .int v3)]) [1, 2, 3, 4, 5, 6, 7, 0] rfl ?_
          exact t_X12_edge_b58 h N K6 hK6 x0 x1 x2 x3 x4 x5 x6 v3
        · refine a_pick (lc2 := [(0, .ref x0), (1, .int x1), (2, .int x2), (3, .int x3), (4, .int x4), (5, .int x5), (6, .int x6), (7, .int v3)]) [1, 2, 3, 4, 5, 6, 7, 0] rfl ?_
          exact t_X12_edge_b54 h N K6 hK6 x0 x1 x2 x3 x4 x5 x6 v3
set_option maxRecDepth 100000 in
set_option maxHeartbeats 4000000 in
theorem t_X12_edge_b6 (h : AH) (N : Nat) : ∀ (n : Nat) (x0 : Nat) (x1 : Int32) (x2 : Int32) (x3 : Int32) (x4 : Int32) (x5 : Int32) (x6 : Int32) , AO l g M_X12_edge false h 6 [(0, .ref x0), (1, .int x1), (2, .int x2), (3, .int x3), (4, .int x4), (5, .int x5), (6, .int x6)] [] h 0 0 (rPi h) (f_X12_edge_b6 h N  n x0 x1 x2 x3 x4 x5 x6) := by
  intro n
  induction n with
  | zero => intro x0 x1 x2 x3 x4 x5 x6; exact a_eq rfl a_none
  | succ n ih => intro x0 x1 x2 x3 x4 x5 x6; exact a_eq rfl (t_X12_edge_b6_body h N  (f_X12_edge_b6 h N  n) ih x0 x1 x2 x3 x4 x5 x6)
end
set_option maxRecDepth 100000 in
set_option maxHeartbeats 4000000 in
theorem c_X12_edge (l : Launch) (g : GG) (h : AH) (N : Nat) (p0 : Nat) (p1 : Int32) (p2 : Int32) (p3 : Int32) (p4 : Int32) : CN l g yX12_edge M_X12_edge false [.ref p0, .int p1, .int p2, .int p3, .int p4] h ((rPi h)) (f_X12_edge h N p0 p1 p2 p3 p4) := by
  refine CN.of (by decide) rfl (fun hh => by first | rfl | cases hh) (Nat.le_of_ble_eq_true rfl) ?_
  unfold f_X12_edge
  refine a_gd (fun hkd => ?_)
  refine a_iconst (v := (-1)) dX12_edge_0 (by decide) ?_
  refine a_istore (lc2 := [(5, .int (-1)), (0, .ref p0), (1, .int p1), (2, .int p2), (3, .int p3), (4, .int p4)]) dX12_edge_1 (by decide) rfl ?_
  refine a_iconst (v := 0) dX12_edge_3 (by decide) ?_
  refine a_istore (lc2 := [(6, .int 0), (5, .int (-1)), (0, .ref p0), (1, .int p1), (2, .int p2), (3, .int p3), (4, .int p4)]) dX12_edge_4 (by decide) rfl ?_
  refine a_pick (lc2 := [(0, .ref p0), (1, .int p1), (2, .int p2), (3, .int p3), (4, .int p4), (5, .int (-1)), (6, .int 0)]) [2, 3, 4, 5, 6, 1, 0] rfl ?_
  exact t_X12_edge_b6 h N N p0 p1 p2 p3 p4 (-1) 0
theorem dX12_span_0 : decode cX12_span 0 = .ok (.aload_n 0, 1) := by decide +kernel
theorem dX12_span_1 : decode cX12_span 1 = .ok (.iload_n 1, 1) := by decide +kernel
theorem dX12_span_2 : decode cX12_span 2 = .ok (.iload_n 2, 1) := by decide +kernel
theorem dX12_span_3 : decode cX12_span 3 = .ok (.iload_n 3, 1) := by decide +kernel
theorem dX12_span_4 : decode cX12_span 4 = .ok (.iconst 0, 1) := by decide +kernel
theorem dX12_span_5 : decode cX12_span 5 = .ok (.invokevirtual 249, 3) := by decide +kernel
theorem dX12_span_8 : decode cX12_span 8 = .ok (.ifCond .eq 25, 3) := by decide +kernel
theorem dX12_span_11 : decode cX12_span 11 = .ok (.iload 4, 2) := by decide +kernel
theorem dX12_span_13 : decode cX12_span 13 = .ok (.iconst 0, 1) := by decide +kernel
theorem dX12_span_14 : decode cX12_span 14 = .ok (.iconst 1, 1) := by decide +kernel
theorem dX12_span_15 : decode cX12_span 15 = .ok (.invokestatic 204, 3) := by decide +kernel
theorem dX12_span_18 : decode cX12_span 18 = .ok (.ifCond .eq 15, 3) := by decide +kernel
theorem dX12_span_21 : decode cX12_span 21 = .ok (.aload_n 0, 1) := by decide +kernel
theorem dX12_span_22 : decode cX12_span 22 = .ok (.iload_n 1, 1) := by decide +kernel
theorem dX12_span_23 : decode cX12_span 23 = .ok (.iload_n 2, 1) := by decide +kernel
theorem dX12_span_24 : decode cX12_span 24 = .ok (.iload_n 3, 1) := by decide +kernel
theorem dX12_span_25 : decode cX12_span 25 = .ok (.iload 4, 2) := by decide +kernel
theorem dX12_span_27 : decode cX12_span 27 = .ok (.invokevirtual 270, 3) := by decide +kernel
theorem dX12_span_30 : decode cX12_span 30 = .ok (.goto 5, 3) := by decide +kernel
theorem dX12_span_33 : decode cX12_span 33 = .ok (.bipush (-5), 2) := by decide +kernel
theorem dX12_span_35 : decode cX12_span 35 = .ok (.ireturn, 1) := by decide +kernel
abbrev M_X12_span : MI := (RX12, cX12_span, 5, (some .int), ({ frames := 4, cells := 0, slots := 0, locals := 93 } : Room), 0, 0, false)
def f_X12_span (h : AH) (N : Nat) (p0 : Nat) (p1 : Int32) (p2 : Int32) (p3 : Int32) (p4 : Int32) : Option Int32 := if kd h p0 = 13 + 1 then (f_X12_isTold h p0 p1 p2 p3 0).bind fun v1 => (if v1 = 0 then some (-5) else (f_X12_in h p4 0 1).bind fun v3 => (if v3 = 0 then some (-5) else (f_X12_edge h N p0 p1 p2 p3 p4).bind fun v5 => some v5)) else none
theorem g_X12_span {h : AH} {N : Nat} {p0 : Nat} {p1 : Int32} {p2 : Int32} {p3 : Int32} {p4 : Int32} {x : Int32} (e : f_X12_span h N p0 p1 p2 p3 p4 = some x) : kd h p0 = 13 + 1 := by
  unfold f_X12_span at e
  by_cases hk : kd h p0 = 13 + 1
  · exact hk
  · rw [if_neg hk] at e
    cases e
theorem km_X12_span : KM yX12_span M_X12_span 4 := ⟨in_tb 1520 (by decide +kernel) rfl, in_tb 9 (by decide +kernel) rfl, by decide +kernel, rfl, rfl⟩
theorem hm_X12_span : M_X12_span.2.2.2.2.2.1 = 0 ∧ M_X12_span.2.2.2.2.2.2.1 = 0 := ⟨rfl, rfl⟩
section
variable {l : Launch} {g : GG}
end
set_option maxRecDepth 100000 in
set_option maxHeartbeats 4000000 in
theorem c_X12_span (l : Launch) (g : GG) (h : AH) (N : Nat) (p0 : Nat) (p1 : Int32) (p2 : Int32) (p3 : Int32) (p4 : Int32) : CN l g yX12_span M_X12_span false [.ref p0, .int p1, .int p2, .int p3, .int p4] h ((rPi h)) (f_X12_span h N p0 p1 p2 p3 p4) := by
  refine CN.of (by decide) rfl (fun hh => by first | rfl | cases hh) (Nat.le_of_ble_eq_true rfl) ?_
  unfold f_X12_span
  refine a_gd (fun hkd => ?_)
  refine a_aload_n dX12_span_0 rfl 0 rfl ?_
  refine a_iload_n dX12_span_1 rfl 1 rfl ?_
  refine a_iload_n dX12_span_2 rfl 2 rfl ?_
  refine a_iload_n dX12_span_3 rfl 3 rfl ?_
  refine a_iconst (v := 0) dX12_span_4 (by decide) ?_
  refine a_cV_Pi (r := p0) (ci := 13) (as := [.int p1, .int p2, .int p3, .int 0]) (st := []) dX12_span_5 (c_X12_isTold l g h p0 p1 p2 p3 0) rfl km_X12_isTold (hm_X12_isTold) rfl (by decide) rfl (fun _ ee => g_X12_isTold ee) w_methodLink_RainCoverModel_249 w_instanceMethod_RainCoverModel_isTold__IIII_Z w_selects_RainCoverModel_RainCoverModel_isTold__IIII_Z_RainCoverModel_isTold__IIII_Z ⟨⟨by decide, by decide⟩, ⟨by decide, by decide⟩⟩ (Nat.le_of_ble_eq_true rfl) (fun v1 => ?_)
  refine a_if_eq 33 dX12_span_8 (by decide) (fun c2 => ?_) (fun c2 => ?_)
  · refine a_bipush (v := (-5)) dX12_span_33 (by decide) ?_
    exact a_iret dX12_span_35 rfl rfl (by decide) (by decide)
  · refine a_iload dX12_span_11 4 rfl ?_
    refine a_iconst (v := 0) dX12_span_13 (by decide) ?_
    refine a_iconst (v := 1) dX12_span_14 (by decide) ?_
    refine a_cS_Pi (as := [.int p4, .int 0, .int 1]) (st := []) dX12_span_15 (c_X12_in l g h p4 0 1) rfl km_X12_in (hm_X12_in) w_methodLink_RainCoverModel_204 w_static_RainCoverModel_in__III_Z ⟨⟨by decide, by decide⟩, ⟨by decide, by decide⟩⟩ (Nat.le_of_ble_eq_true rfl) (fun v3 => ?_)
    refine a_if_eq 33 dX12_span_18 (by decide) (fun c4 => ?_) (fun c4 => ?_)
    · refine a_bipush (v := (-5)) dX12_span_33 (by decide) ?_
      exact a_iret dX12_span_35 rfl rfl (by decide) (by decide)
    · refine a_aload_n dX12_span_21 rfl 0 rfl ?_
      refine a_iload_n dX12_span_22 rfl 1 rfl ?_
      refine a_iload_n dX12_span_23 rfl 2 rfl ?_
      refine a_iload_n dX12_span_24 rfl 3 rfl ?_
      refine a_iload dX12_span_25 4 rfl ?_
      refine a_cV_Pi (r := p0) (ci := 13) (as := [.int p1, .int p2, .int p3, .int p4]) (st := []) dX12_span_27 (c_X12_edge l g h N p0 p1 p2 p3 p4) rfl km_X12_edge (hm_X12_edge) rfl (by decide) rfl (fun _ ee => g_X12_edge ee) w_methodLink_RainCoverModel_270 w_instanceMethod_RainCoverModel_edge__IIII_I w_selects_RainCoverModel_RainCoverModel_edge__IIII_I_RainCoverModel_edge__IIII_I ⟨⟨by decide, by decide⟩, ⟨by decide, by decide⟩⟩ (Nat.le_of_ble_eq_true rfl) (fun v5 => ?_)
      refine a_goto 35 dX12_span_30 (by decide) ?_
      exact a_iret dX12_span_35 rfl rfl (by decide) (by decide)
theorem dX12_odd_0 : decode cX12_odd 0 = .ok (.aload_n 0, 1) := by decide +kernel
theorem dX12_odd_1 : decode cX12_odd 1 = .ok (.iload_n 1, 1) := by decide +kernel
theorem dX12_odd_2 : decode cX12_odd 2 = .ok (.invokevirtual 225, 3) := by decide +kernel
theorem dX12_odd_5 : decode cX12_odd 5 = .ok (.ifCond .eq 10, 3) := by decide +kernel
theorem dX12_odd_8 : decode cX12_odd 8 = .ok (.iload_n 2, 1) := by decide +kernel
theorem dX12_odd_9 : decode cX12_odd 9 = .ok (.invokestatic 221, 3) := by decide +kernel
theorem dX12_odd_12 : decode cX12_odd 12 = .ok (.ifCond .ne 5, 3) := by decide +kernel
theorem dX12_odd_15 : decode cX12_odd 15 = .ok (.iconst (-1), 1) := by decide +kernel
theorem dX12_odd_16 : decode cX12_odd 16 = .ok (.ireturn, 1) := by decide +kernel
theorem dX12_odd_17 : decode cX12_odd 17 = .ok (.iconst 0, 1) := by decide +kernel
theorem dX12_odd_18 : decode cX12_odd 18 = .ok (.istore_n 3, 1) := by decide +kernel
theorem dX12_odd_19 : decode cX12_odd 19 = .ok (.iconst 0, 1) := by decide +kernel
theorem dX12_odd_20 : decode cX12_odd 20 = .ok (.istore 4, 2) := by decide +kernel
theorem dX12_odd_22 : decode cX12_odd 22 = .ok (.iload 4, 2) := by decide +kernel
theorem dX12_odd_24 : decode cX12_odd 24 = .ok (.bipush 12, 2) := by decide +kernel
theorem dX12_odd_26 : decode cX12_odd 26 = .ok (.if_icmp .ge 98, 3) := by decide +kernel
theorem dX12_odd_29 : decode cX12_odd 29 = .ok (.aload_n 0, 1) := by decide +kernel
theorem dX12_odd_30 : decode cX12_odd 30 = .ok (.iconst 0, 1) := by decide +kernel
theorem dX12_odd_31 : decode cX12_odd 31 = .ok (.iload_n 1, 1) := by decide +kernel
theorem dX12_odd_32 : decode cX12_odd 32 = .ok (.iload_n 2, 1) := by decide +kernel
theorem dX12_odd_33 : decode cX12_odd 33 = .ok (.iload 4, 2) := by decide +kernel
theorem dX12_odd_35 : decode cX12_odd 35 = .ok (.invokevirtual 253, 3) := by decide +kernel
theorem dX12_odd_38 : decode cX12_odd 38 = .ok (.istore 5, 2) := by decide +kernel
theorem dX12_odd_40 : decode cX12_odd 40 = .ok (.aload_n 0, 1) := by decide +kernel
theorem dX12_odd_41 : decode cX12_odd 41 = .ok (.iload_n 1, 1) := by decide +kernel
theorem dX12_odd_42 : decode cX12_odd 42 = .ok (.iload_n 2, 1) := by decide +kernel
theorem dX12_odd_43 : decode cX12_odd 43 = .ok (.iload 4, 2) := by decide +kernel
theorem dX12_odd_45 : decode cX12_odd 45 = .ok (.iconst 0, 1) := by decide +kernel
theorem dX12_odd_46 : decode cX12_odd 46 = .ok (.invokevirtual 270, 3) := by decide +kernel
theorem dX12_odd_49 : decode cX12_odd 49 = .ok (.istore 6, 2) := by decide +kernel
theorem dX12_odd_51 : decode cX12_odd 51 = .ok (.iload 5, 2) := by decide +kernel
theorem dX12_odd_53 : decode cX12_odd 53 = .ok (.iconst (-1), 1) := by decide +kernel
theorem dX12_odd_54 : decode cX12_odd 54 = .ok (.if_icmp .eq 48, 3) := by decide +kernel
theorem dX12_odd_57 : decode cX12_odd 57 = .ok (.iload 6, 2) := by decide +kernel
theorem dX12_odd_59 : decode cX12_odd 59 = .ok (.iconst (-1), 1) := by decide +kernel
theorem dX12_odd_60 : decode cX12_odd 60 = .ok (.if_icmp .eq 42, 3) := by decide +kernel
theorem dX12_odd_63 : decode cX12_odd 63 = .ok (.iload 5, 2) := by decide +kernel
theorem dX12_odd_65 : decode cX12_odd 65 = .ok (.iload 6, 2) := by decide +kernel
theorem dX12_odd_67 : decode cX12_odd 67 = .ok (.aload_n 0, 1) := by decide +kernel
theorem dX12_odd_68 : decode cX12_odd 68 = .ok (.getfield 24, 3) := by decide +kernel
theorem dX12_odd_71 : decode cX12_odd 71 = .ok (.iconst 1, 1) := by decide +kernel
theorem dX12_odd_72 : decode cX12_odd 72 = .ok (.iaload, 1) := by decide +kernel
theorem dX12_odd_73 : decode cX12_odd 73 = .ok (.isub, 1) := by decide +kernel
theorem dX12_odd_74 : decode cX12_odd 74 = .ok (.if_icmp .lt 24, 3) := by decide +kernel
theorem dX12_odd_77 : decode cX12_odd 77 = .ok (.iload 5, 2) := by decide +kernel
theorem dX12_odd_79 : decode cX12_odd 79 = .ok (.aload_n 0, 1) := by decide +kernel
theorem dX12_odd_80 : decode cX12_odd 80 = .ok (.iload_n 1, 1) := by decide +kernel
theorem dX12_odd_81 : decode cX12_odd 81 = .ok (.iload_n 2, 1) := by decide +kernel
theorem dX12_odd_82 : decode cX12_odd 82 = .ok (.iload 4, 2) := by decide +kernel
theorem dX12_odd_84 : decode cX12_odd 84 = .ok (.iconst 1, 1) := by decide +kernel
theorem dX12_odd_85 : decode cX12_odd 85 = .ok (.invokevirtual 270, 3) := by decide +kernel
theorem dX12_odd_88 : decode cX12_odd 88 = .ok (.aload_n 0, 1) := by decide +kernel
theorem dX12_odd_89 : decode cX12_odd 89 = .ok (.getfield 24, 3) := by decide +kernel
theorem dX12_odd_92 : decode cX12_odd 92 = .ok (.iconst 1, 1) := by decide +kernel
theorem dX12_odd_93 : decode cX12_odd 93 = .ok (.iaload, 1) := by decide +kernel
theorem dX12_odd_94 : decode cX12_odd 94 = .ok (.iadd, 1) := by decide +kernel
theorem dX12_odd_95 : decode cX12_odd 95 = .ok (.if_icmp .le 7, 3) := by decide +kernel
theorem dX12_odd_98 : decode cX12_odd 98 = .ok (.iconst 1, 1) := by decide +kernel
theorem dX12_odd_99 : decode cX12_odd 99 = .ok (.goto 4, 3) := by decide +kernel
theorem dX12_odd_102 : decode cX12_odd 102 = .ok (.iconst 0, 1) := by decide +kernel
theorem dX12_odd_103 : decode cX12_odd 103 = .ok (.istore 7, 2) := by decide +kernel
theorem dX12_odd_105 : decode cX12_odd 105 = .ok (.iload_n 3, 1) := by decide +kernel
theorem dX12_odd_106 : decode cX12_odd 106 = .ok (.iload 7, 2) := by decide +kernel
theorem dX12_odd_108 : decode cX12_odd 108 = .ok (.ifCond .eq 7, 3) := by decide +kernel
theorem dX12_odd_111 : decode cX12_odd 111 = .ok (.iconst 1, 1) := by decide +kernel
theorem dX12_odd_112 : decode cX12_odd 112 = .ok (.goto 4, 3) := by decide +kernel
theorem dX12_odd_115 : decode cX12_odd 115 = .ok (.iconst 0, 1) := by decide +kernel
theorem dX12_odd_116 : decode cX12_odd 116 = .ok (.iadd, 1) := by decide +kernel
theorem dX12_odd_117 : decode cX12_odd 117 = .ok (.istore_n 3, 1) := by decide +kernel
theorem dX12_odd_118 : decode cX12_odd 118 = .ok (.iinc 4 1, 3) := by decide +kernel
theorem dX12_odd_121 : decode cX12_odd 121 = .ok (.goto (-99), 3) := by decide +kernel
theorem dX12_odd_124 : decode cX12_odd 124 = .ok (.iload_n 3, 1) := by decide +kernel
theorem dX12_odd_125 : decode cX12_odd 125 = .ok (.ireturn, 1) := by decide +kernel
abbrev M_X12_odd : MI := (RX12, cX12_odd, 8, (some .int), ({ frames := 4, cells := 0, slots := 0, locals := 93 } : Room), 0, 0, false)
def f_X12_odd_b116 (h : AH) (N : Nat) (K22 : Nat → Int32 → Int32 → Int32 → Int32 → Option Int32) (x0 : Nat) (x1 : Int32) (x2 : Int32) (x4 : Int32) (s4 : Int32) (s5 : Int32) : Option Int32 := K22 x0 x1 x2 (s5 + s4) (x4 + 1)
def f_X12_odd_b103 (h : AH) (N : Nat) (K22 : Nat → Int32 → Int32 → Int32 → Int32 → Option Int32) (x0 : Nat) (x1 : Int32) (x2 : Int32) (x3 : Int32) (x4 : Int32) (s5 : Int32) : Option Int32 := (if s5 = 0 then f_X12_odd_b116 h N K22 x0 x1 x2 x4 0 x3 else f_X12_odd_b116 h N K22 x0 x1 x2 x4 1 x3)
def f_X12_odd_b98 (h : AH) (N : Nat) (K22 : Nat → Int32 → Int32 → Int32 → Int32 → Option Int32) (x0 : Nat) (x1 : Int32) (x2 : Int32) (x3 : Int32) (x4 : Int32) : Option Int32 := f_X12_odd_b103 h N K22 x0 x1 x2 x3 x4 1
def f_X12_odd_b102 (h : AH) (N : Nat) (K22 : Nat → Int32 → Int32 → Int32 → Int32 → Option Int32) (x0 : Nat) (x1 : Int32) (x2 : Int32) (x3 : Int32) (x4 : Int32) : Option Int32 := f_X12_odd_b103 h N K22 x0 x1 x2 x3 x4 0
def f_X12_odd_b22_body (h : AH) (N : Nat) (K22 : Nat → Int32 → Int32 → Int32 → Int32 → Option Int32) (x0 : Nat) (x1 : Int32) (x2 : Int32) (x3 : Int32) (x4 : Int32) : Option Int32 := (if 12 ≤ x4 then some x3 else (f_X12_rainOf h x0 0 x1 x2 x4).bind fun v6 => (f_X12_edge h N x0 x1 x2 x4 0).bind fun v7 => (if v6 = (-1) then f_X12_odd_b102 h N K22 x0 x1 x2 x3 x4 else (if v7 = (-1) then f_X12_odd_b102 h N K22 x0 x1 x2 x3 x4 else (xgr h x0 13 5).bind fun v10 => (xia h v10 1).bind fun v11 => (if v6 < (v7 - v11) then f_X12_odd_b98 h N K22 x0 x1 x2 x3 x4 else (f_X12_edge h N x0 x1 x2 x4 1).bind fun v13 => (xgr h x0 13 5).bind fun v14 => (xia h v14 1).bind fun v15 => (if v6 ≤ (v13 + v15) then f_X12_odd_b102 h N K22 x0 x1 x2 x3 x4 else f_X12_odd_b98 h N K22 x0 x1 x2 x3 x4)))))
def f_X12_odd_b22 (h : AH) (N : Nat) : Nat → Nat → Int32 → Int32 → Int32 → Int32 → Option Int32
  | 0, _, _, _, _, _ => none
  | n + 1, x0, x1, x2, x3, x4 => f_X12_odd_b22_body h N  (f_X12_odd_b22 h N  n) x0 x1 x2 x3 x4
def f_X12_odd (h : AH) (N : Nat) (p0 : Nat) (p1 : Int32) (p2 : Int32) : Option Int32 := if kd h p0 = 13 + 1 then (f_X12_isGauge h p0 p1).bind fun v1 => (if v1 = 0 then some (-1) else (f_X12_isSeason h p2).bind fun v3 => (if v3 = 0 then some (-1) else f_X12_odd_b22 h N N p0 p1 p2 0 0)) else none
theorem g_X12_odd {h : AH} {N : Nat} {p0 : Nat} {p1 : Int32} {p2 : Int32} {x : Int32} (e : f_X12_odd h N p0 p1 p2 = some x) : kd h p0 = 13 + 1 := by
  unfold f_X12_odd at e
  by_cases hk : kd h p0 = 13 + 1
  · exact hk
  · rw [if_neg hk] at e
    cases e
theorem km_X12_odd : KM yX12_odd M_X12_odd 2 := ⟨in_tb 1528 (by decide +kernel) rfl, in_tb 9 (by decide +kernel) rfl, by decide +kernel, rfl, rfl⟩
theorem hm_X12_odd : M_X12_odd.2.2.2.2.2.1 = 0 ∧ M_X12_odd.2.2.2.2.2.2.1 = 0 := ⟨rfl, rfl⟩
section
variable {l : Launch} {g : GG}
set_option maxRecDepth 100000 in
set_option maxHeartbeats 4000000 in
theorem t_X12_odd_b116 (h : AH) (N : Nat) (K22 : Nat → Int32 → Int32 → Int32 → Int32 → Option Int32) (hK22 : ∀ (z0 : Nat) (z1 : Int32) (z2 : Int32) (z3 : Int32) (z4 : Int32), AO l g M_X12_odd false h 22 [(0, .ref z0), (1, .int z1), (2, .int z2), (3, .int z3), (4, .int z4)] [] h 0 0 (rPi h) (K22 z0 z1 z2 z3 z4)) (x0 : Nat) (x1 : Int32) (x2 : Int32) (x4 : Int32) (s4 : Int32) (s5 : Int32) : AO l g M_X12_odd false h 116 [(0, .ref x0), (1, .int x1), (2, .int x2), (4, .int x4)] [.int s4, .int s5] h 0 0 (rPi h) (f_X12_odd_b116 h N K22 x0 x1 x2 x4 s4 s5) := by
  unfold f_X12_odd_b116
  refine a_iadd dX12_odd_116 ?_
  refine a_istore_n (lc2 := [(3, .int (s5 + s4)), (0, .ref x0), (1, .int x1), (2, .int x2), (4, .int x4)]) dX12_odd_117 rfl (by decide) rfl ?_
  refine a_iinc (q := 4) (v := (x4 + 1)) (lc2 := [(4, .int (x4 + 1)), (3, .int (s5 + s4)), (0, .ref x0), (1, .int x1), (2, .int x2)]) dX12_odd_118 rfl rfl (by decide) rfl ?_
  refine a_goto 22 dX12_odd_121 (by decide) ?_
  refine a_pick (lc2 := [(0, .ref x0), (1, .int x1), (2, .int x2), (3, .int (s5 + s4)), (4, .int (x4 + 1))]) [2, 3, 4, 1, 0] rfl ?_
  exact hK22 x0 x1 x2 (s5 + s4) (x4 + 1)
set_option maxRecDepth 100000 in
set_option maxHeartbeats 4000000 in
theorem t_X12_odd_b103 (h : AH) (N : Nat) (K22 : Nat → Int32 → Int32 → Int32 → Int32 → Option Int32) (hK22 : ∀ (z0 : Nat) (z1 : Int32) (z2 : Int32) (z3 : Int32) (z4 : Int32), AO l g M_X12_odd false h 22 [(0, .ref z0), (1, .int z1), (2, .int z2), (3, .int z3), (4, .int z4)] [] h 0 0 (rPi h) (K22 z0 z1 z2 z3 z4)) (x0 : Nat) (x1 : Int32) (x2 : Int32) (x3 : Int32) (x4 : Int32) (s5 : Int32) : AO l g M_X12_odd false h 103 [(0, .ref x0), (1, .int x1), (2, .int x2), (3, .int x3), (4, .int x4)] [.int s5] h 0 0 (rPi h) (f_X12_odd_b103 h N K22 x0 x1 x2 x3 x4 s5) := by
  unfold f_X12_odd_b103
  refine a_istore (lc2 := [(7, .int s5), (0, .ref x0), (1, .int x1), (2, .int x2), (3, .int x3), (4, .int x4)]) dX12_odd_103 (by decide) rfl ?_
  refine a_iload_n dX12_odd_105 rfl 4 rfl ?_
  refine a_iload dX12_odd_106 0 rfl ?_
  refine a_if_eq 115 dX12_odd_108 (by decide) (fun c17 => ?_) (fun c17 => ?_)
  · refine a_iconst (v := 0) dX12_odd_115 (by decide) ?_
    refine a_pick (lc2 := [(0, .ref x0), (1, .int x1), (2, .int x2), (4, .int x4)]) [1, 2, 3, 5] rfl ?_
    exact t_X12_odd_b116 h N K22 hK22 x0 x1 x2 x4 0 x3
  · refine a_iconst (v := 1) dX12_odd_111 (by decide) ?_
    refine a_goto 116 dX12_odd_112 (by decide) ?_
    refine a_pick (lc2 := [(0, .ref x0), (1, .int x1), (2, .int x2), (4, .int x4)]) [1, 2, 3, 5] rfl ?_
    exact t_X12_odd_b116 h N K22 hK22 x0 x1 x2 x4 1 x3
set_option maxRecDepth 100000 in
set_option maxHeartbeats 4000000 in
theorem t_X12_odd_b98 (h : AH) (N : Nat) (K22 : Nat → Int32 → Int32 → Int32 → Int32 → Option Int32) (hK22 : ∀ (z0 : Nat) (z1 : Int32) (z2 : Int32) (z3 : Int32) (z4 : Int32), AO l g M_X12_odd false h 22 [(0, .ref z0), (1, .int z1), (2, .int z2), (3, .int z3), (4, .int z4)] [] h 0 0 (rPi h) (K22 z0 z1 z2 z3 z4)) (x0 : Nat) (x1 : Int32) (x2 : Int32) (x3 : Int32) (x4 : Int32) : AO l g M_X12_odd false h 98 [(0, .ref x0), (1, .int x1), (2, .int x2), (3, .int x3), (4, .int x4)] [] h 0 0 (rPi h) (f_X12_odd_b98 h N K22 x0 x1 x2 x3 x4) := by
  unfold f_X12_odd_b98
  refine a_iconst (v := 1) dX12_odd_98 (by decide) ?_
  refine a_goto 103 dX12_odd_99 (by decide) ?_
  exact t_X12_odd_b103 h N K22 hK22 x0 x1 x2 x3 x4 1
set_option maxRecDepth 100000 in
set_option maxHeartbeats 4000000 in
theorem t_X12_odd_b102 (h : AH) (N : Nat) (K22 : Nat → Int32 → Int32 → Int32 → Int32 → Option Int32) (hK22 : ∀ (z0 : Nat) (z1 : Int32) (z2 : Int32) (z3 : Int32) (z4 : Int32), AO l g M_X12_odd false h 22 [(0, .ref z0), (1, .int z1), (2, .int z2), (3, .int z3), (4, .int z4)] [] h 0 0 (rPi h) (K22 z0 z1 z2 z3 z4)) (x0 : Nat) (x1 : Int32) (x2 : Int32) (x3 : Int32) (x4 : Int32) : AO l g M_X12_odd false h 102 [(0, .ref x0), (1, .int x1), (2, .int x2), (3, .int x3), (4, .int x4)] [] h 0 0 (rPi h) (f_X12_odd_b102 h N K22 x0 x1 x2 x3 x4) := by
  unfold f_X12_odd_b102
  refine a_iconst (v := 0) dX12_odd_102 (by decide) ?_
  exact t_X12_odd_b103 h N K22 hK22 x0 x1 x2 x3 x4 0
set_option maxRecDepth 100000 in
set_option maxHeartbeats 4000000 in
theorem t_X12_odd_b22_body (h : AH) (N : Nat) (K22 : Nat → Int32 → Int32 → Int32 → Int32 → Option Int32) (hK22 : ∀ (z0 : Nat) (z1 : Int32) (z2 : Int32) (z3 : Int32) (z4 : Int32), AO l g M_X12_odd false h 22 [(0, .ref z0), (1, .int z1), (2, .int z2), (3, .int z3), (4, .int z4)] [] h 0 0 (rPi h) (K22 z0 z1 z2 z3 z4)) (x0 : Nat) (x1 : Int32) (x2 : Int32) (x3 : Int32) (x4 : Int32) : AO l g M_X12_odd false h 22 [(0, .ref x0), (1, .int x1), (2, .int x2), (3, .int x3), (4, .int x4)] [] h 0 0 (rPi h) (f_X12_odd_b22_body h N K22 x0 x1 x2 x3 x4) := by
  unfold f_X12_odd_b22_body
  refine a_iload dX12_odd_22 4 rfl ?_
  refine a_bipush (v := 12) dX12_odd_24 (by decide) ?_
  refine a_icmp_ge 124 dX12_odd_26 (by decide) (fun c5 => ?_) (fun c5 => ?_)
  · refine a_iload_n dX12_odd_124 rfl 3 rfl ?_
    exact a_iret dX12_odd_125 rfl rfl (by decide) (by decide)
  · refine a_aload_n dX12_odd_29 rfl 0 rfl ?_
    refine a_iconst (v := 0) dX12_odd_30 (by decide) ?_
    refine a_iload_n dX12_odd_31 rfl 1 rfl ?_
    refine a_iload_n dX12_odd_32 rfl 2 rfl ?_
    refine a_iload dX12_odd_33 4 rfl ?_
    refine a_cV_Pi (r := x0) (ci := 13) (as := [.int 0, .int x1, .int x2, .int x4]) (st := []) dX12_odd_35 (c_X12_rainOf l g h x0 0 x1 x2 x4) rfl km_X12_rainOf (hm_X12_rainOf) rfl (by decide) rfl (fun _ ee => g_X12_rainOf ee) w_methodLink_RainCoverModel_253 w_instanceMethod_RainCoverModel_rainOf__IIII_I w_selects_RainCoverModel_RainCoverModel_rainOf__IIII_I_RainCoverModel_rainOf__IIII_I ⟨⟨by decide, by decide⟩, ⟨by decide, by decide⟩⟩ (Nat.le_of_ble_eq_true rfl) (fun v6 => ?_)
    refine a_istore (lc2 := [(5, .int v6), (0, .ref x0), (1, .int x1), (2, .int x2), (3, .int x3), (4, .int x4)]) dX12_odd_38 (by decide) rfl ?_
    refine a_aload_n dX12_odd_40 rfl 1 rfl ?_
    refine a_iload_n dX12_odd_41 rfl 2 rfl ?_
    refine a_iload_n dX12_odd_42 rfl 3 rfl ?_
    refine a_iload dX12_odd_43 5 rfl ?_
    refine a_iconst (v := 0) dX12_odd_45 (by decide) ?_
    refine a_cV_Pi (r := x0) (ci := 13) (as := [.int x1, .int x2, .int x4, .int 0]) (st := []) dX12_odd_46 (c_X12_edge l g h N x0 x1 x2 x4 0) rfl km_X12_edge (hm_X12_edge) rfl (by decide) rfl (fun _ ee => g_X12_edge ee) w_methodLink_RainCoverModel_270 w_instanceMethod_RainCoverModel_edge__IIII_I w_selects_RainCoverModel_RainCoverModel_edge__IIII_I_RainCoverModel_edge__IIII_I ⟨⟨by decide, by decide⟩, ⟨by decide, by decide⟩⟩ (Nat.le_of_ble_eq_true rfl) (fun v7 => ?_)
    refine a_istore (lc2 := [(6, .int v7), (5, .int v6), (0, .ref x0), (1, .int x1), (2, .int x2), (3, .int x3), (4, .int x4)]) dX12_odd_49 (by decide) rfl ?_
    refine a_iload dX12_odd_51 1 rfl ?_
    refine a_iconst (v := (-1)) dX12_odd_53 (by decide) ?_
    refine a_icmp_eq 102 dX12_odd_54 (by decide) (fun c8 => ?_) (fun c8 => ?_)
    · refine a_pick (lc2 := [(0, .ref x0), (1, .int x1), (2, .int x2), (3, .int x3), (4, .int x4)]) [2, 3, 4, 5, 6] rfl ?_
      exact t_X12_odd_b102 h N K22 hK22 x0 x1 x2 x3 x4
    · refine a_iload dX12_odd_57 0 rfl ?_
      refine a_iconst (v := (-1)) dX12_odd_59 (by decide) ?_
      refine a_icmp_eq 102 dX12_odd_60 (by decide) (fun c9 => ?_) (fun c9 => ?_)
      · refine a_pick (lc2 := [(0, .ref x0), (1, .int x1), (2, .int x2), (3, .int x3), (4, .int x4)]) [2, 3, 4, 5, 6] rfl ?_
        exact t_X12_odd_b102 h N K22 hK22 x0 x1 x2 x3 x4
      · refine a_iload dX12_odd_63 1 rfl ?_
        refine a_iload dX12_odd_65 0 rfl ?_
        refine a_aload_n dX12_odd_67 rfl 2 rfl ?_
        refine a_getr kc13 5 dX12_odd_68 (by decide) rfl w_fieldLink_RainCoverModel_24 (fun v10 => ?_)
        refine a_iconst (v := 1) dX12_odd_71 (by decide) ?_
        refine a_iald dX12_odd_72 (fun v11 => ?_)
        refine a_isub dX12_odd_73 ?_
        refine a_icmp_lt 98 dX12_odd_74 (by decide) (fun c12 => ?_) (fun c12 => ?_)
        · refine a_pick (lc2 := [(0, .ref x0), (1, .int x1), (2, .int x2), (3, .int x3), (4, .int x4)]) [2, 3, 4, 5, 6] rfl ?_
          exact t_X12_odd_b98 h N K22 hK22 x0 x1 x2 x3 x4
        · refine a_iload dX12_odd_77 1 rfl ?_
          refine a_aload_n dX12_odd_79 rfl 2 rfl ?_
          refine a_iload_n dX12_odd_80 rfl 3 rfl ?_
          refine a_iload_n dX12_odd_81 rfl 4 rfl ?_
          refine a_iload dX12_odd_82 6 rfl ?_
          refine a_iconst (v := 1) dX12_odd_84 (by decide) ?_
          refine a_cV_Pi (r := x0) (ci := 13) (as := [.int x1, .int x2, .int x4, .int 1]) (st := [.int v6]) dX12_odd_85 (c_X12_edge l g h N x0 x1 x2 x4 1) rfl km_X12_edge (hm_X12_edge) rfl (by decide) rfl (fun _ ee => g_X12_edge ee) w_methodLink_RainCoverModel_270 w_instanceMethod_RainCoverModel_edge__IIII_I w_selects_RainCoverModel_RainCoverModel_edge__IIII_I_RainCoverModel_edge__IIII_I ⟨⟨by decide, by decide⟩, ⟨by decide, by decide⟩⟩ (Nat.le_of_ble_eq_true rfl) (fun v13 => ?_)
          refine a_aload_n dX12_odd_88 rfl 2 rfl ?_
          refine a_getr kc13 5 dX12_odd_89 (by decide) rfl w_fieldLink_RainCoverModel_24 (fun v14 => ?_)
          refine a_iconst (v := 1) dX12_odd_92 (by decide) ?_
          refine a_iald dX12_odd_93 (fun v15 => ?_)
          refine a_iadd dX12_odd_94 ?_
          refine a_icmp_le 102 dX12_odd_95 (by decide) (fun c16 => ?_) (fun c16 => ?_)
          · refine a_pick (lc2 := [(0, .ref x0), (1, .int x1), (2, .int x2), (3, .int x3), (4, .int x4)]) [2, 3, 4, 5, 6] rfl ?_
            exact t_X12_odd_b102 h N K22 hK22 x0 x1 x2 x3 x4
          · refine a_pick (lc2 := [(0, .ref x0), (1, .int x1), (2, .int x2), (3, .int x3), (4, .int x4)]) [2, 3, 4, 5, 6] rfl ?_
            exact t_X12_odd_b98 h N K22 hK22 x0 x1 x2 x3 x4
set_option maxRecDepth 100000 in
set_option maxHeartbeats 4000000 in
theorem t_X12_odd_b22 (h : AH) (N : Nat) : ∀ (n : Nat) (x0 : Nat) (x1 : Int32) (x2 : Int32) (x3 : Int32) (x4 : Int32) , AO l g M_X12_odd false h 22 [(0, .ref x0), (1, .int x1), (2, .int x2), (3, .int x3), (4, .int x4)] [] h 0 0 (rPi h) (f_X12_odd_b22 h N  n x0 x1 x2 x3 x4) := by
  intro n
  induction n with
  | zero => intro x0 x1 x2 x3 x4; exact a_eq rfl a_none
  | succ n ih => intro x0 x1 x2 x3 x4; exact a_eq rfl (t_X12_odd_b22_body h N  (f_X12_odd_b22 h N  n) ih x0 x1 x2 x3 x4)
end
set_option maxRecDepth 100000 in
set_option maxHeartbeats 4000000 in
theorem c_X12_odd (l : Launch) (g : GG) (h : AH) (N : Nat) (p0 : Nat) (p1 : Int32) (p2 : Int32) : CN l g yX12_odd M_X12_odd false [.ref p0, .int p1, .int p2] h ((rPi h)) (f_X12_odd h N p0 p1 p2) := by
  refine CN.of (by decide) rfl (fun hh => by first | rfl | cases hh) (Nat.le_of_ble_eq_true rfl) ?_
  unfold f_X12_odd
  refine a_gd (fun hkd => ?_)
  refine a_aload_n dX12_odd_0 rfl 0 rfl ?_
  refine a_iload_n dX12_odd_1 rfl 1 rfl ?_
  refine a_cV_Pi (r := p0) (ci := 13) (as := [.int p1]) (st := []) dX12_odd_2 (c_X12_isGauge l g h p0 p1) rfl km_X12_isGauge (hm_X12_isGauge) rfl (by decide) rfl (fun _ ee => g_X12_isGauge ee) w_methodLink_RainCoverModel_225 w_instanceMethod_RainCoverModel_isGauge__I_Z w_selects_RainCoverModel_RainCoverModel_isGauge__I_Z_RainCoverModel_isGauge__I_Z ⟨⟨by decide, by decide⟩, ⟨by decide, by decide⟩⟩ (Nat.le_of_ble_eq_true rfl) (fun v1 => ?_)
  refine a_if_eq 15 dX12_odd_5 (by decide) (fun c2 => ?_) (fun c2 => ?_)
  · refine a_iconst (v := (-1)) dX12_odd_15 (by decide) ?_
    exact a_iret dX12_odd_16 rfl rfl (by decide) (by decide)
  · refine a_iload_n dX12_odd_8 rfl 2 rfl ?_
    refine a_cS_Pi (as := [.int p2]) (st := []) dX12_odd_9 (c_X12_isSeason l g h p2) rfl km_X12_isSeason (hm_X12_isSeason) w_methodLink_RainCoverModel_221 w_static_RainCoverModel_isSeason__I_Z ⟨⟨by decide, by decide⟩, ⟨by decide, by decide⟩⟩ (Nat.le_of_ble_eq_true rfl) (fun v3 => ?_)
    refine a_if_ne 17 dX12_odd_12 (by decide) (fun c4 => ?_) (fun c4 => ?_)
    · refine a_iconst (v := (-1)) dX12_odd_15 (by decide) ?_
      exact a_iret dX12_odd_16 rfl rfl (by decide) (by decide)
    · refine a_iconst (v := 0) dX12_odd_17 (by decide) ?_
      refine a_istore_n (lc2 := [(3, .int 0), (0, .ref p0), (1, .int p1), (2, .int p2)]) dX12_odd_18 rfl (by decide) rfl ?_
      refine a_iconst (v := 0) dX12_odd_19 (by decide) ?_
      refine a_istore (lc2 := [(4, .int 0), (3, .int 0), (0, .ref p0), (1, .int p1), (2, .int p2)]) dX12_odd_20 (by decide) rfl ?_
      refine a_pick (lc2 := [(0, .ref p0), (1, .int p1), (2, .int p2), (3, .int 0), (4, .int 0)]) [2, 3, 4, 1, 0] rfl ?_
      exact t_X12_odd_b22 h N N p0 p1 p2 0 0
theorem dX12_feed_0 : decode cX12_feed 0 = .ok (.iload_n 2, 1) := by decide +kernel
theorem dX12_feed_1 : decode cX12_feed 1 = .ok (.iconst 0, 1) := by decide +kernel
theorem dX12_feed_2 : decode cX12_feed 2 = .ok (.iconst 4, 1) := by decide +kernel
theorem dX12_feed_3 : decode cX12_feed 3 = .ok (.invokestatic 204, 3) := by decide +kernel
theorem dX12_feed_6 : decode cX12_feed 6 = .ok (.ifCond .ne 6, 3) := by decide +kernel
theorem dX12_feed_9 : decode cX12_feed 9 = .ok (.bipush (-2), 2) := by decide +kernel
theorem dX12_feed_11 : decode cX12_feed 11 = .ok (.ireturn, 1) := by decide +kernel
theorem dX12_feed_12 : decode cX12_feed 12 = .ok (.aload_n 0, 1) := by decide +kernel
theorem dX12_feed_13 : decode cX12_feed 13 = .ok (.getfield 273, 3) := by decide +kernel
theorem dX12_feed_16 : decode cX12_feed 16 = .ok (.iload_n 2, 1) := by decide +kernel
theorem dX12_feed_17 : decode cX12_feed 17 = .ok (.iadd, 1) := by decide +kernel
theorem dX12_feed_18 : decode cX12_feed 18 = .ok (.bipush 100, 2) := by decide +kernel
theorem dX12_feed_20 : decode cX12_feed 20 = .ok (.if_icmp .le 6, 3) := by decide +kernel
theorem dX12_feed_23 : decode cX12_feed 23 = .ok (.bipush (-4), 2) := by decide +kernel
theorem dX12_feed_25 : decode cX12_feed 25 = .ok (.ireturn, 1) := by decide +kernel
theorem dX12_feed_26 : decode cX12_feed 26 = .ok (.iload_n 2, 1) := by decide +kernel
theorem dX12_feed_27 : decode cX12_feed 27 = .ok (.iconst 1, 1) := by decide +kernel
theorem dX12_feed_28 : decode cX12_feed 28 = .ok (.isub, 1) := by decide +kernel
theorem dX12_feed_29 : decode cX12_feed 29 = .ok (.istore_n 3, 1) := by decide +kernel
theorem dX12_feed_30 : decode cX12_feed 30 = .ok (.iload_n 3, 1) := by decide +kernel
theorem dX12_feed_31 : decode cX12_feed 31 = .ok (.ifCond .lt 38, 3) := by decide +kernel
theorem dX12_feed_34 : decode cX12_feed 34 = .ok (.aload_n 0, 1) := by decide +kernel
theorem dX12_feed_35 : decode cX12_feed 35 = .ok (.getfield 170, 3) := by decide +kernel
theorem dX12_feed_38 : decode cX12_feed 38 = .ok (.aload_n 0, 1) := by decide +kernel
theorem dX12_feed_39 : decode cX12_feed 39 = .ok (.getfield 273, 3) := by decide +kernel
theorem dX12_feed_42 : decode cX12_feed 42 = .ok (.iload_n 1, 1) := by decide +kernel
theorem dX12_feed_43 : decode cX12_feed 43 = .ok (.bipush 8, 2) := by decide +kernel
theorem dX12_feed_45 : decode cX12_feed 45 = .ok (.iload_n 3, 1) := by decide +kernel
theorem dX12_feed_46 : decode cX12_feed 46 = .ok (.imul, 1) := by decide +kernel
theorem dX12_feed_47 : decode cX12_feed 47 = .ok (.ishr, 1) := by decide +kernel
theorem dX12_feed_48 : decode cX12_feed 48 = .ok (.sipush 255, 3) := by decide +kernel
theorem dX12_feed_51 : decode cX12_feed 51 = .ok (.iand, 1) := by decide +kernel
theorem dX12_feed_52 : decode cX12_feed 52 = .ok (.iastore, 1) := by decide +kernel
theorem dX12_feed_53 : decode cX12_feed 53 = .ok (.aload_n 0, 1) := by decide +kernel
theorem dX12_feed_54 : decode cX12_feed 54 = .ok (.dup, 1) := by decide +kernel
theorem dX12_feed_55 : decode cX12_feed 55 = .ok (.getfield 273, 3) := by decide +kernel
theorem dX12_feed_58 : decode cX12_feed 58 = .ok (.iconst 1, 1) := by decide +kernel
theorem dX12_feed_59 : decode cX12_feed 59 = .ok (.iadd, 1) := by decide +kernel
theorem dX12_feed_60 : decode cX12_feed 60 = .ok (.putfield 273, 3) := by decide +kernel
theorem dX12_feed_63 : decode cX12_feed 63 = .ok (.iinc 3 (-1), 3) := by decide +kernel
theorem dX12_feed_66 : decode cX12_feed 66 = .ok (.goto (-36), 3) := by decide +kernel
theorem dX12_feed_69 : decode cX12_feed 69 = .ok (.aload_n 0, 1) := by decide +kernel
theorem dX12_feed_70 : decode cX12_feed 70 = .ok (.getfield 273, 3) := by decide +kernel
theorem dX12_feed_73 : decode cX12_feed 73 = .ok (.ireturn, 1) := by decide +kernel
abbrev M_X12_feed : MI := (RX12, cX12_feed, 4, (some .int), ({ frames := 1, cells := 0, slots := 0, locals := 22 } : Room), 0, 0, false)
def f_X12_feed_b30_body (N : Nat) (K30 : AH → Nat → Int32 → Int32 → Option (Int32 × AH)) (h : AH) (x0 : Nat) (x1 : Int32) (x3 : Int32) : Option (Int32 × AH) := (if x3 < 0 then (xgi h x0 13 63).bind fun v6 => some (v6, h) else (xgr h x0 13 62).bind fun v7 => (xgi h x0 13 63).bind fun v8 => (xis h v7 v8 ((x1 >>> ((8 * x3) &&& 31)) &&& 255)).bind fun h9 => (xgi h9 x0 13 63).bind fun v10 => (xpi h9 x0 13 63 (v10 + 1)).bind fun h11 => K30 h11 x0 x1 (x3 + (-1)))
def f_X12_feed_b30 (N : Nat) : Nat → AH → Nat → Int32 → Int32 → Option (Int32 × AH)
  | 0, _, _, _, _ => none
  | n + 1, h, x0, x1, x3 => f_X12_feed_b30_body N  (f_X12_feed_b30 N  n) h x0 x1 x3
def f_X12_feed (h0 : AH) (N : Nat) (p0 : Nat) (p1 : Int32) (p2 : Int32) : Option (Int32 × AH) := if kd h0 p0 = 13 + 1 then (f_X12_in h0 p2 0 4).bind fun v1 => (if v1 = 0 then some ((-2), h0) else (xgi h0 p0 13 63).bind fun v3 => (if (v3 + p2) ≤ 100 then f_X12_feed_b30 N N h0 p0 p1 (p2 - 1) else some ((-4), h0))) else none
theorem g_X12_feed {h0 : AH} {N : Nat} {p0 : Nat} {p1 : Int32} {p2 : Int32} {x : (Int32 × AH)} (e : f_X12_feed h0 N p0 p1 p2 = some x) : kd h0 p0 = 13 + 1 := by
  unfold f_X12_feed at e
  by_cases hk : kd h0 p0 = 13 + 1
  · exact hk
  · rw [if_neg hk] at e
    cases e
theorem km_X12_feed : KM yX12_feed M_X12_feed 2 := ⟨in_tb 1532 (by decide +kernel) rfl, in_tb 9 (by decide +kernel) rfl, by decide +kernel, rfl, rfl⟩
theorem hm_X12_feed : M_X12_feed.2.2.2.2.2.1 = 0 ∧ M_X12_feed.2.2.2.2.2.2.1 = 0 := ⟨rfl, rfl⟩
section
variable {l : Launch} {g : GG}
set_option maxRecDepth 100000 in
set_option maxHeartbeats 4000000 in
theorem t_X12_feed_b30_body (h0 : AH) (N : Nat) (K30 : AH → Nat → Int32 → Int32 → Option (Int32 × AH)) (hK30 : ∀ (z : AH) (z0 : Nat) (z1 : Int32) (z2 : Int32), AO l g M_X12_feed false h0 30 [(0, .ref z0), (1, .int z1), (3, .int z2)] [] z 0 0 rSi (K30 z z0 z1 z2)) (h : AH) (x0 : Nat) (x1 : Int32) (x3 : Int32) : AO l g M_X12_feed false h0 30 [(0, .ref x0), (1, .int x1), (3, .int x3)] [] h 0 0 rSi (f_X12_feed_b30_body N K30 h x0 x1 x3) := by
  unfold f_X12_feed_b30_body
  refine a_iload_n dX12_feed_30 rfl 2 rfl ?_
  refine a_if_lt 69 dX12_feed_31 (by decide) (fun c5 => ?_) (fun c5 => ?_)
  · refine a_aload_n dX12_feed_69 rfl 0 rfl ?_
    refine a_geti kc13 63 dX12_feed_70 (by decide) rfl w_fieldLink_RainCoverModel_273 (fun v6 => ?_)
    exact a_iret dX12_feed_73 rfl rfl (by decide) (by decide)
  · refine a_aload_n dX12_feed_34 rfl 0 rfl ?_
    refine a_getr kc13 62 dX12_feed_35 (by decide) rfl w_fieldLink_RainCoverModel_170 (fun v7 => ?_)
    refine a_aload_n dX12_feed_38 rfl 0 rfl ?_
    refine a_geti kc13 63 dX12_feed_39 (by decide) rfl w_fieldLink_RainCoverModel_273 (fun v8 => ?_)
    refine a_iload_n dX12_feed_42 rfl 1 rfl ?_
    refine a_bipush (v := 8) dX12_feed_43 (by decide) ?_
    refine a_iload_n dX12_feed_45 rfl 2 rfl ?_
    refine a_imul dX12_feed_46 ?_
    refine a_ishr dX12_feed_47 ?_
    refine a_sipush (v := 255) dX12_feed_48 (by decide) ?_
    refine a_iand dX12_feed_51 ?_
    refine a_iast dX12_feed_52 (fun h9 => ?_)
    refine a_aload_n dX12_feed_53 rfl 0 rfl ?_
    refine a_dup dX12_feed_54 rfl ?_
    refine a_geti kc13 63 dX12_feed_55 (by decide) rfl w_fieldLink_RainCoverModel_273 (fun v10 => ?_)
    refine a_iconst (v := 1) dX12_feed_58 (by decide) ?_
    refine a_iadd dX12_feed_59 ?_
    refine a_puti kc13 63 dX12_feed_60 (by decide) rfl w_fieldLink_RainCoverModel_273 rfl rfl (fun h11 => ?_)
    refine a_iinc (q := 2) (v := (x3 + (-1))) (lc2 := [(3, .int (x3 + (-1))), (0, .ref x0), (1, .int x1)]) dX12_feed_63 rfl rfl (by decide) rfl ?_
    refine a_goto 30 dX12_feed_66 (by decide) ?_
    refine a_pick (lc2 := [(0, .ref x0), (1, .int x1), (3, .int (x3 + (-1)))]) [1, 2, 0] rfl ?_
    exact hK30 h11 x0 x1 (x3 + (-1))
set_option maxRecDepth 100000 in
set_option maxHeartbeats 4000000 in
theorem t_X12_feed_b30 (h0 : AH) (N : Nat) : ∀ (n : Nat) (h : AH) (x0 : Nat) (x1 : Int32) (x3 : Int32) , AO l g M_X12_feed false h0 30 [(0, .ref x0), (1, .int x1), (3, .int x3)] [] h 0 0 rSi (f_X12_feed_b30 N  n h x0 x1 x3) := by
  intro n
  induction n with
  | zero => intro h x0 x1 x3; exact a_eq rfl a_none
  | succ n ih => intro h x0 x1 x3; exact a_eq rfl (t_X12_feed_b30_body h0 N  (f_X12_feed_b30 N  n) ih h x0 x1 x3)
end
set_option maxRecDepth 100000 in
set_option maxHeartbeats 4000000 in
theorem c_X12_feed (l : Launch) (g : GG) (h0 : AH) (N : Nat) (p0 : Nat) (p1 : Int32) (p2 : Int32) : CN l g yX12_feed M_X12_feed false [.ref p0, .int p1, .int p2] h0 rSi (f_X12_feed h0 N p0 p1 p2) := by
  refine CN.of (by decide) rfl (fun hh => by first | rfl | cases hh) (Nat.le_of_ble_eq_true rfl) ?_
  unfold f_X12_feed
  refine a_gd (fun hkd => ?_)
  refine a_iload_n dX12_feed_0 rfl 2 rfl ?_
  refine a_iconst (v := 0) dX12_feed_1 (by decide) ?_
  refine a_iconst (v := 4) dX12_feed_2 (by decide) ?_
  refine a_cS_Pi (as := [.int p2, .int 0, .int 4]) (st := []) dX12_feed_3 (c_X12_in l g h0 p2 0 4) rfl km_X12_in (hm_X12_in) w_methodLink_RainCoverModel_204 w_static_RainCoverModel_in__III_Z ⟨⟨by decide, by decide⟩, ⟨by decide, by decide⟩⟩ (Nat.le_of_ble_eq_true rfl) (fun v1 => ?_)
  refine a_if_ne 12 dX12_feed_6 (by decide) (fun c2 => ?_) (fun c2 => ?_)
  · refine a_bipush (v := (-2)) dX12_feed_9 (by decide) ?_
    exact a_iret dX12_feed_11 rfl rfl (by decide) (by decide)
  · refine a_aload_n dX12_feed_12 rfl 0 rfl ?_
    refine a_geti kc13 63 dX12_feed_13 (by decide) rfl w_fieldLink_RainCoverModel_273 (fun v3 => ?_)
    refine a_iload_n dX12_feed_16 rfl 2 rfl ?_
    refine a_iadd dX12_feed_17 ?_
    refine a_bipush (v := 100) dX12_feed_18 (by decide) ?_
    refine a_icmp_le 26 dX12_feed_20 (by decide) (fun c4 => ?_) (fun c4 => ?_)
    · refine a_iload_n dX12_feed_26 rfl 2 rfl ?_
      refine a_iconst (v := 1) dX12_feed_27 (by decide) ?_
      refine a_isub dX12_feed_28 ?_
      refine a_istore_n (lc2 := [(3, .int (p2 - 1)), (0, .ref p0), (1, .int p1), (2, .int p2)]) dX12_feed_29 rfl (by decide) rfl ?_
      refine a_pick (lc2 := [(0, .ref p0), (1, .int p1), (3, .int (p2 - 1))]) [1, 2, 0] rfl ?_
      exact t_X12_feed_b30 h0 N N h0 p0 p1 (p2 - 1)
    · refine a_bipush (v := (-4)) dX12_feed_23 (by decide) ?_
      exact a_iret dX12_feed_25 rfl rfl (by decide) (by decide)
theorem dX12_byteAt_0 : decode cX12_byteAt 0 = .ok (.iload_n 1, 1) := by decide +kernel
theorem dX12_byteAt_1 : decode cX12_byteAt 1 = .ok (.aload_n 0, 1) := by decide +kernel
theorem dX12_byteAt_2 : decode cX12_byteAt 2 = .ok (.getfield 273, 3) := by decide +kernel
theorem dX12_byteAt_5 : decode cX12_byteAt 5 = .ok (.if_icmp .ge 12, 3) := by decide +kernel
theorem dX12_byteAt_8 : decode cX12_byteAt 8 = .ok (.aload_n 0, 1) := by decide +kernel
theorem dX12_byteAt_9 : decode cX12_byteAt 9 = .ok (.getfield 170, 3) := by decide +kernel
theorem dX12_byteAt_12 : decode cX12_byteAt 12 = .ok (.iload_n 1, 1) := by decide +kernel
theorem dX12_byteAt_13 : decode cX12_byteAt 13 = .ok (.iaload, 1) := by decide +kernel
theorem dX12_byteAt_14 : decode cX12_byteAt 14 = .ok (.goto 4, 3) := by decide +kernel
theorem dX12_byteAt_17 : decode cX12_byteAt 17 = .ok (.iconst (-1), 1) := by decide +kernel
theorem dX12_byteAt_18 : decode cX12_byteAt 18 = .ok (.ireturn, 1) := by decide +kernel
abbrev M_X12_byteAt : MI := (RX12, cX12_byteAt, 2, (some .int), ({ frames := 0, cells := 0, slots := 0, locals := 0 } : Room), 0, 0, false)
def f_X12_byteAt (h : AH) (p0 : Nat) (p1 : Int32) : Option Int32 := if kd h p0 = 13 + 1 then (xgi h p0 13 63).bind fun v1 => (if v1 ≤ p1 then some (-1) else (xgr h p0 13 62).bind fun v3 => (xia h v3 p1).bind fun v4 => some v4) else none
theorem g_X12_byteAt {h : AH} {p0 : Nat} {p1 : Int32} {x : Int32} (e : f_X12_byteAt h p0 p1 = some x) : kd h p0 = 13 + 1 := by
  unfold f_X12_byteAt at e
  by_cases hk : kd h p0 = 13 + 1
  · exact hk
  · rw [if_neg hk] at e
    cases e
theorem km_X12_byteAt : KM yX12_byteAt M_X12_byteAt 1 := ⟨in_tb 1540 (by decide +kernel) rfl, in_tb 9 (by decide +kernel) rfl, by decide +kernel, rfl, rfl⟩
theorem hm_X12_byteAt : M_X12_byteAt.2.2.2.2.2.1 = 0 ∧ M_X12_byteAt.2.2.2.2.2.2.1 = 0 := ⟨rfl, rfl⟩
section
variable {l : Launch} {g : GG}
end
set_option maxRecDepth 100000 in
set_option maxHeartbeats 4000000 in
theorem c_X12_byteAt (l : Launch) (g : GG) (h : AH) (p0 : Nat) (p1 : Int32) : CN l g yX12_byteAt M_X12_byteAt false [.ref p0, .int p1] h ((rPi h)) (f_X12_byteAt h p0 p1) := by
  refine CN.of (by decide) rfl (fun hh => by first | rfl | cases hh) (Nat.le_of_ble_eq_true rfl) ?_
  unfold f_X12_byteAt
  refine a_gd (fun hkd => ?_)
  refine a_iload_n dX12_byteAt_0 rfl 1 rfl ?_
  refine a_aload_n dX12_byteAt_1 rfl 0 rfl ?_
  refine a_geti kc13 63 dX12_byteAt_2 (by decide) rfl w_fieldLink_RainCoverModel_273 (fun v1 => ?_)
  refine a_icmp_ge 17 dX12_byteAt_5 (by decide) (fun c2 => ?_) (fun c2 => ?_)
  · refine a_iconst (v := (-1)) dX12_byteAt_17 (by decide) ?_
    exact a_iret dX12_byteAt_18 rfl rfl (by decide) (by decide)
  · refine a_aload_n dX12_byteAt_8 rfl 0 rfl ?_
    refine a_getr kc13 62 dX12_byteAt_9 (by decide) rfl w_fieldLink_RainCoverModel_170 (fun v3 => ?_)
    refine a_iload_n dX12_byteAt_12 rfl 1 rfl ?_
    refine a_iald dX12_byteAt_13 (fun v4 => ?_)
    refine a_goto 18 dX12_byteAt_14 (by decide) ?_
    exact a_iret dX12_byteAt_18 rfl rfl (by decide) (by decide)
theorem dX12_startOf_0 : decode cX12_startOf 0 = .ok (.iconst 0, 1) := by decide +kernel
theorem dX12_startOf_1 : decode cX12_startOf 1 = .ok (.istore_n 2, 1) := by decide +kernel
theorem dX12_startOf_2 : decode cX12_startOf 2 = .ok (.iconst 0, 1) := by decide +kernel
theorem dX12_startOf_3 : decode cX12_startOf 3 = .ok (.istore_n 3, 1) := by decide +kernel
theorem dX12_startOf_4 : decode cX12_startOf 4 = .ok (.iload_n 3, 1) := by decide +kernel
theorem dX12_startOf_5 : decode cX12_startOf 5 = .ok (.iload_n 1, 1) := by decide +kernel
theorem dX12_startOf_6 : decode cX12_startOf 6 = .ok (.if_icmp .ge 27, 3) := by decide +kernel
theorem dX12_startOf_9 : decode cX12_startOf 9 = .ok (.aload_n 0, 1) := by decide +kernel
theorem dX12_startOf_10 : decode cX12_startOf 10 = .ok (.getfield 185, 3) := by decide +kernel
theorem dX12_startOf_13 : decode cX12_startOf 13 = .ok (.iload_n 2, 1) := by decide +kernel
theorem dX12_startOf_14 : decode cX12_startOf 14 = .ok (.iaload, 1) := by decide +kernel
theorem dX12_startOf_15 : decode cX12_startOf 15 = .ok (.ifCond .eq 9, 3) := by decide +kernel
theorem dX12_startOf_18 : decode cX12_startOf 18 = .ok (.iinc 2 1, 3) := by decide +kernel
theorem dX12_startOf_21 : decode cX12_startOf 21 = .ok (.goto (-12), 3) := by decide +kernel
theorem dX12_startOf_24 : decode cX12_startOf 24 = .ok (.iinc 2 1, 3) := by decide +kernel
theorem dX12_startOf_27 : decode cX12_startOf 27 = .ok (.iinc 3 1, 3) := by decide +kernel
theorem dX12_startOf_30 : decode cX12_startOf 30 = .ok (.goto (-26), 3) := by decide +kernel
theorem dX12_startOf_33 : decode cX12_startOf 33 = .ok (.iload_n 2, 1) := by decide +kernel
theorem dX12_startOf_34 : decode cX12_startOf 34 = .ok (.ireturn, 1) := by decide +kernel
abbrev M_X12_startOf : MI := (RX12, cX12_startOf, 4, (some .int), ({ frames := 0, cells := 0, slots := 0, locals := 0 } : Room), 0, 0, false)
def f_X12_startOf_b9_body (h : AH) (N : Nat) (K4 : Nat → Int32 → Int32 → Int32 → Option Int32) (K9 : Nat → Int32 → Int32 → Int32 → Option Int32) (x0 : Nat) (x1 : Int32) (x2 : Int32) (x3 : Int32) : Option Int32 := (xgr h x0 13 71).bind fun v2 => (xia h v2 x2).bind fun v3 => (if v3 = 0 then K4 x0 x1 (x2 + 1) (x3 + 1) else K9 x0 x1 (x2 + 1) x3)
def f_X12_startOf_b9 (h : AH) (N : Nat) (K4 : Nat → Int32 → Int32 → Int32 → Option Int32) : Nat → Nat → Int32 → Int32 → Int32 → Option Int32
  | 0, _, _, _, _ => none
  | n + 1, x0, x1, x2, x3 => f_X12_startOf_b9_body h N K4 (f_X12_startOf_b9 h N K4 n) x0 x1 x2 x3
def f_X12_startOf_b4_body (h : AH) (N : Nat) (K4 : Nat → Int32 → Int32 → Int32 → Option Int32) (x0 : Nat) (x1 : Int32) (x2 : Int32) (x3 : Int32) : Option Int32 := (if x1 ≤ x3 then some x2 else f_X12_startOf_b9 h N K4 N x0 x1 x2 x3)
def f_X12_startOf_b4 (h : AH) (N : Nat) : Nat → Nat → Int32 → Int32 → Int32 → Option Int32
  | 0, _, _, _, _ => none
  | n + 1, x0, x1, x2, x3 => f_X12_startOf_b4_body h N  (f_X12_startOf_b4 h N  n) x0 x1 x2 x3
def f_X12_startOf (h : AH) (N : Nat) (p0 : Nat) (p1 : Int32) : Option Int32 := if kd h p0 = 13 + 1 then f_X12_startOf_b4 h N N p0 p1 0 0 else none
theorem g_X12_startOf {h : AH} {N : Nat} {p0 : Nat} {p1 : Int32} {x : Int32} (e : f_X12_startOf h N p0 p1 = some x) : kd h p0 = 13 + 1 := by
  unfold f_X12_startOf at e
  by_cases hk : kd h p0 = 13 + 1
  · exact hk
  · rw [if_neg hk] at e
    cases e
theorem km_X12_startOf : KM yX12_startOf M_X12_startOf 1 := ⟨in_tb 1552 (by decide +kernel) rfl, in_tb 9 (by decide +kernel) rfl, by decide +kernel, rfl, rfl⟩
theorem hm_X12_startOf : M_X12_startOf.2.2.2.2.2.1 = 0 ∧ M_X12_startOf.2.2.2.2.2.2.1 = 0 := ⟨rfl, rfl⟩
section
variable {l : Launch} {g : GG}
set_option maxRecDepth 100000 in
set_option maxHeartbeats 4000000 in
theorem t_X12_startOf_b9_body (h : AH) (N : Nat) (K4 : Nat → Int32 → Int32 → Int32 → Option Int32) (hK4 : ∀ (z0 : Nat) (z1 : Int32) (z2 : Int32) (z3 : Int32), AO l g M_X12_startOf false h 4 [(0, .ref z0), (1, .int z1), (2, .int z2), (3, .int z3)] [] h 0 0 (rPi h) (K4 z0 z1 z2 z3)) (K9 : Nat → Int32 → Int32 → Int32 → Option Int32) (hK9 : ∀ (z0 : Nat) (z1 : Int32) (z2 : Int32) (z3 : Int32), AO l g M_X12_startOf false h 9 [(0, .ref z0), (1, .int z1), (2, .int z2), (3, .int z3)] [] h 0 0 (rPi h) (K9 z0 z1 z2 z3)) (x0 : Nat) (x1 : Int32) (x2 : Int32) (x3 : Int32) : AO l g M_X12_startOf false h 9 [(0, .ref x0), (1, .int x1), (2, .int x2), (3, .int x3)] [] h 0 0 (rPi h) (f_X12_startOf_b9_body h N K4 K9 x0 x1 x2 x3) := by
  unfold f_X12_startOf_b9_body
  refine a_aload_n dX12_startOf_9 rfl 0 rfl ?_
  refine a_getr kc13 71 dX12_startOf_10 (by decide) rfl w_fieldLink_RainCoverModel_185 (fun v2 => ?_)
  refine a_iload_n dX12_startOf_13 rfl 2 rfl ?_
  refine a_iald dX12_startOf_14 (fun v3 => ?_)
  refine a_if_eq 24 dX12_startOf_15 (by decide) (fun c4 => ?_) (fun c4 => ?_)
  · refine a_iinc (q := 2) (v := (x2 + 1)) (lc2 := [(2, .int (x2 + 1)), (0, .ref x0), (1, .int x1), (3, .int x3)]) dX12_startOf_24 rfl rfl (by decide) rfl ?_
    refine a_iinc (q := 3) (v := (x3 + 1)) (lc2 := [(3, .int (x3 + 1)), (2, .int (x2 + 1)), (0, .ref x0), (1, .int x1)]) dX12_startOf_27 rfl rfl (by decide) rfl ?_
    refine a_goto 4 dX12_startOf_30 (by decide) ?_
    refine a_pick (lc2 := [(0, .ref x0), (1, .int x1), (2, .int (x2 + 1)), (3, .int (x3 + 1))]) [2, 3, 1, 0] rfl ?_
    exact hK4 x0 x1 (x2 + 1) (x3 + 1)
  · refine a_iinc (q := 2) (v := (x2 + 1)) (lc2 := [(2, .int (x2 + 1)), (0, .ref x0), (1, .int x1), (3, .int x3)]) dX12_startOf_18 rfl rfl (by decide) rfl ?_
    refine a_goto 9 dX12_startOf_21 (by decide) ?_
    refine a_pick (lc2 := [(0, .ref x0), (1, .int x1), (2, .int (x2 + 1)), (3, .int x3)]) [1, 2, 0, 3] rfl ?_
    exact hK9 x0 x1 (x2 + 1) x3
set_option maxRecDepth 100000 in
set_option maxHeartbeats 4000000 in
theorem t_X12_startOf_b9 (h : AH) (N : Nat) (K4 : Nat → Int32 → Int32 → Int32 → Option Int32) (hK4 : ∀ (z0 : Nat) (z1 : Int32) (z2 : Int32) (z3 : Int32), AO l g M_X12_startOf false h 4 [(0, .ref z0), (1, .int z1), (2, .int z2), (3, .int z3)] [] h 0 0 (rPi h) (K4 z0 z1 z2 z3)) : ∀ (n : Nat) (x0 : Nat) (x1 : Int32) (x2 : Int32) (x3 : Int32) , AO l g M_X12_startOf false h 9 [(0, .ref x0), (1, .int x1), (2, .int x2), (3, .int x3)] [] h 0 0 (rPi h) (f_X12_startOf_b9 h N K4 n x0 x1 x2 x3) := by
  intro n
  induction n with
  | zero => intro x0 x1 x2 x3; exact a_eq rfl a_none
  | succ n ih => intro x0 x1 x2 x3; exact a_eq rfl (t_X12_startOf_b9_body h N (K4) (hK4) (f_X12_startOf_b9 h N K4 n) ih x0 x1 x2 x3)
set_option maxRecDepth 100000 in
set_option maxHeartbeats 4000000 in
theorem t_X12_startOf_b4_body (h : AH) (N : Nat) (K4 : Nat → Int32 → Int32 → Int32 → Option Int32) (hK4 : ∀ (z0 : Nat) (z1 : Int32) (z2 : Int32) (z3 : Int32), AO l g M_X12_startOf false h 4 [(0, .ref z0), (1, .int z1), (2, .int z2), (3, .int z3)] [] h 0 0 (rPi h) (K4 z0 z1 z2 z3)) (x0 : Nat) (x1 : Int32) (x2 : Int32) (x3 : Int32) : AO l g M_X12_startOf false h 4 [(0, .ref x0), (1, .int x1), (2, .int x2), (3, .int x3)] [] h 0 0 (rPi h) (f_X12_startOf_b4_body h N K4 x0 x1 x2 x3) := by
  unfold f_X12_startOf_b4_body
  refine a_iload_n dX12_startOf_4 rfl 3 rfl ?_
  refine a_iload_n dX12_startOf_5 rfl 1 rfl ?_
  refine a_icmp_ge 33 dX12_startOf_6 (by decide) (fun c1 => ?_) (fun c1 => ?_)
  · refine a_iload_n dX12_startOf_33 rfl 2 rfl ?_
    exact a_iret dX12_startOf_34 rfl rfl (by decide) (by decide)
  · exact t_X12_startOf_b9 h N K4 hK4 N x0 x1 x2 x3
set_option maxRecDepth 100000 in
set_option maxHeartbeats 4000000 in
theorem t_X12_startOf_b4 (h : AH) (N : Nat) : ∀ (n : Nat) (x0 : Nat) (x1 : Int32) (x2 : Int32) (x3 : Int32) , AO l g M_X12_startOf false h 4 [(0, .ref x0), (1, .int x1), (2, .int x2), (3, .int x3)] [] h 0 0 (rPi h) (f_X12_startOf_b4 h N  n x0 x1 x2 x3) := by
  intro n
  induction n with
  | zero => intro x0 x1 x2 x3; exact a_eq rfl a_none
  | succ n ih => intro x0 x1 x2 x3; exact a_eq rfl (t_X12_startOf_b4_body h N  (f_X12_startOf_b4 h N  n) ih x0 x1 x2 x3)
end
set_option maxRecDepth 100000 in
set_option maxHeartbeats 4000000 in
theorem c_X12_startOf (l : Launch) (g : GG) (h : AH) (N : Nat) (p0 : Nat) (p1 : Int32) : CN l g yX12_startOf M_X12_startOf false [.ref p0, .int p1] h ((rPi h)) (f_X12_startOf h N p0 p1) := by
  refine CN.of (by decide) rfl (fun hh => by first | rfl | cases hh) (Nat.le_of_ble_eq_true rfl) ?_
  unfold f_X12_startOf
  refine a_gd (fun hkd => ?_)
  refine a_iconst (v := 0) dX12_startOf_0 (by decide) ?_
  refine a_istore_n (lc2 := [(2, .int 0), (0, .ref p0), (1, .int p1)]) dX12_startOf_1 rfl (by decide) rfl ?_
  refine a_iconst (v := 0) dX12_startOf_2 (by decide) ?_
  refine a_istore_n (lc2 := [(3, .int 0), (2, .int 0), (0, .ref p0), (1, .int p1)]) dX12_startOf_3 rfl (by decide) rfl ?_
  refine a_pick (lc2 := [(0, .ref p0), (1, .int p1), (2, .int 0), (3, .int 0)]) [2, 3, 1, 0] rfl ?_
  exact t_X12_startOf_b4 h N N p0 p1 0 0
theorem dX12_must_0 : decode cX12_must 0 = .ok (.aload_n 0, 1) := by decide +kernel
theorem dX12_must_1 : decode cX12_must 1 = .ok (.iload_n 1, 1) := by decide +kernel
theorem dX12_must_2 : decode cX12_must 2 = .ok (.invokevirtual 276, 3) := by decide +kernel
theorem dX12_must_5 : decode cX12_must 5 = .ok (.istore_n 2, 1) := by decide +kernel
theorem dX12_must_6 : decode cX12_must 6 = .ok (.aload_n 0, 1) := by decide +kernel
theorem dX12_must_7 : decode cX12_must 7 = .ok (.getfield 185, 3) := by decide +kernel
theorem dX12_must_10 : decode cX12_must 10 = .ok (.iload_n 2, 1) := by decide +kernel
theorem dX12_must_11 : decode cX12_must 11 = .ok (.iaload, 1) := by decide +kernel
theorem dX12_must_12 : decode cX12_must 12 = .ok (.ifCond .eq 63, 3) := by decide +kernel
theorem dX12_must_15 : decode cX12_must 15 = .ok (.aload_n 0, 1) := by decide +kernel
theorem dX12_must_16 : decode cX12_must 16 = .ok (.getfield 279, 3) := by decide +kernel
theorem dX12_must_19 : decode cX12_must 19 = .ok (.ifCond .ne 56, 3) := by decide +kernel
theorem dX12_must_22 : decode cX12_must 22 = .ok (.aload_n 0, 1) := by decide +kernel
theorem dX12_must_23 : decode cX12_must 23 = .ok (.aload_n 0, 1) := by decide +kernel
theorem dX12_must_24 : decode cX12_must 24 = .ok (.aload_n 0, 1) := by decide +kernel
theorem dX12_must_25 : decode cX12_must 25 = .ok (.getfield 283, 3) := by decide +kernel
theorem dX12_must_28 : decode cX12_must 28 = .ok (.invokevirtual 286, 3) := by decide +kernel
theorem dX12_must_31 : decode cX12_must 31 = .ok (.aload_n 0, 1) := by decide +kernel
theorem dX12_must_32 : decode cX12_must 32 = .ok (.getfield 185, 3) := by decide +kernel
theorem dX12_must_35 : decode cX12_must 35 = .ok (.iload_n 2, 1) := by decide +kernel
theorem dX12_must_36 : decode cX12_must 36 = .ok (.iaload, 1) := by decide +kernel
theorem dX12_must_37 : decode cX12_must 37 = .ok (.if_icmp .eq 7, 3) := by decide +kernel
theorem dX12_must_40 : decode cX12_must 40 = .ok (.iconst 1, 1) := by decide +kernel
theorem dX12_must_41 : decode cX12_must 41 = .ok (.goto 4, 3) := by decide +kernel
theorem dX12_must_44 : decode cX12_must 44 = .ok (.iconst 0, 1) := by decide +kernel
theorem dX12_must_45 : decode cX12_must 45 = .ok (.putfield 279, 3) := by decide +kernel
theorem dX12_must_48 : decode cX12_must 48 = .ok (.aload_n 0, 1) := by decide +kernel
theorem dX12_must_49 : decode cX12_must 49 = .ok (.dup, 1) := by decide +kernel
theorem dX12_must_50 : decode cX12_must 50 = .ok (.getfield 283, 3) := by decide +kernel
theorem dX12_must_53 : decode cX12_must 53 = .ok (.aload_n 0, 1) := by decide +kernel
theorem dX12_must_54 : decode cX12_must 54 = .ok (.getfield 279, 3) := by decide +kernel
theorem dX12_must_57 : decode cX12_must 57 = .ok (.ifCond .eq 7, 3) := by decide +kernel
theorem dX12_must_60 : decode cX12_must 60 = .ok (.iconst 0, 1) := by decide +kernel
theorem dX12_must_61 : decode cX12_must 61 = .ok (.goto 4, 3) := by decide +kernel
theorem dX12_must_64 : decode cX12_must 64 = .ok (.iconst 1, 1) := by decide +kernel
theorem dX12_must_65 : decode cX12_must 65 = .ok (.iadd, 1) := by decide +kernel
theorem dX12_must_66 : decode cX12_must 66 = .ok (.putfield 283, 3) := by decide +kernel
theorem dX12_must_69 : decode cX12_must 69 = .ok (.iinc 2 1, 3) := by decide +kernel
theorem dX12_must_72 : decode cX12_must 72 = .ok (.goto (-66), 3) := by decide +kernel
theorem dX12_must_75 : decode cX12_must 75 = .ok (.return_, 1) := by decide +kernel
abbrev M_X12_must : MI := (RX12, cX12_must, 3, none, ({ frames := 1, cells := 0, slots := 0, locals := 23 } : Room), 0, 0, false)
def f_X12_must_b65 (N : Nat) (K6 : AH → Nat → Int32 → Option AH) (h : AH) (x0 : Nat) (x2 : Int32) (s2 : Int32) (s3 : Int32) (s4 : Nat) : Option AH := (xpi h s4 13 69 (s3 + s2)).bind fun h16 => K6 h16 x0 (x2 + 1)
def f_X12_must_b45 (N : Nat) (K6 : AH → Nat → Int32 → Option AH) (h : AH) (x0 : Nat) (x2 : Int32) (s2 : Int32) (s3 : Nat) : Option AH := (xpz h s3 13 70 s2).bind fun h12 => (xgi h12 x0 13 69).bind fun v13 => (xgi h12 x0 13 70).bind fun v14 => (if v14 = 0 then f_X12_must_b65 N K6 h12 x0 x2 1 v13 x0 else f_X12_must_b65 N K6 h12 x0 x2 0 v13 x0)
def f_X12_must_b6_body (N : Nat) (K6 : AH → Nat → Int32 → Option AH) (h : AH) (x0 : Nat) (x2 : Int32) : Option AH := (xgr h x0 13 71).bind fun v2 => (xia h v2 x2).bind fun v3 => (if v3 = 0 then some h else (xgi h x0 13 70).bind fun v5 => (if v5 = 0 then (xgi h x0 13 69).bind fun v7 => (f_X12_byteAt h x0 v7).bind fun v8 => (xgr h x0 13 71).bind fun v9 => (xia h v9 x2).bind fun v10 => (if v8 = v10 then f_X12_must_b45 N K6 h x0 x2 0 x0 else f_X12_must_b45 N K6 h x0 x2 1 x0) else some h))
def f_X12_must_b6 (N : Nat) : Nat → AH → Nat → Int32 → Option AH
  | 0, _, _, _ => none
  | n + 1, h, x0, x2 => f_X12_must_b6_body N  (f_X12_must_b6 N  n) h x0 x2
def f_X12_must (h0 : AH) (N : Nat) (p0 : Nat) (p1 : Int32) : Option AH := if kd h0 p0 = 13 + 1 then (f_X12_startOf h0 N p0 p1).bind fun v1 => f_X12_must_b6 N N h0 p0 v1 else none
theorem g_X12_must {h0 : AH} {N : Nat} {p0 : Nat} {p1 : Int32} {x : AH} (e : f_X12_must h0 N p0 p1 = some x) : kd h0 p0 = 13 + 1 := by
  unfold f_X12_must at e
  by_cases hk : kd h0 p0 = 13 + 1
  · exact hk
  · rw [if_neg hk] at e
    cases e
theorem km_X12_must : KM yX12_must M_X12_must 1 := ⟨in_tb 1548 (by decide +kernel) rfl, in_tb 9 (by decide +kernel) rfl, by decide +kernel, rfl, rfl⟩
theorem hm_X12_must : M_X12_must.2.2.2.2.2.1 = 0 ∧ M_X12_must.2.2.2.2.2.2.1 = 0 := ⟨rfl, rfl⟩
section
variable {l : Launch} {g : GG}
set_option maxRecDepth 100000 in
set_option maxHeartbeats 4000000 in
theorem t_X12_must_b65 (h0 : AH) (N : Nat) (K6 : AH → Nat → Int32 → Option AH) (hK6 : ∀ (z : AH) (z0 : Nat) (z1 : Int32), AO l g M_X12_must false h0 6 [(0, .ref z0), (2, .int z1)] [] z 0 0 rSv (K6 z z0 z1)) (h : AH) (x0 : Nat) (x2 : Int32) (s2 : Int32) (s3 : Int32) (s4 : Nat) : AO l g M_X12_must false h0 65 [(0, .ref x0), (2, .int x2)] [.int s2, .int s3, .ref s4] h 0 0 rSv (f_X12_must_b65 N K6 h x0 x2 s2 s3 s4) := by
  unfold f_X12_must_b65
  refine a_iadd dX12_must_65 ?_
  refine a_puti kc13 69 dX12_must_66 (by decide) rfl w_fieldLink_RainCoverModel_283 rfl rfl (fun h16 => ?_)
  refine a_iinc (q := 1) (v := (x2 + 1)) (lc2 := [(2, .int (x2 + 1)), (0, .ref x0)]) dX12_must_69 rfl rfl (by decide) rfl ?_
  refine a_goto 6 dX12_must_72 (by decide) ?_
  refine a_pick (lc2 := [(0, .ref x0), (2, .int (x2 + 1))]) [1, 0] rfl ?_
  exact hK6 h16 x0 (x2 + 1)
set_option maxRecDepth 100000 in
set_option maxHeartbeats 4000000 in
theorem t_X12_must_b45 (h0 : AH) (N : Nat) (K6 : AH → Nat → Int32 → Option AH) (hK6 : ∀ (z : AH) (z0 : Nat) (z1 : Int32), AO l g M_X12_must false h0 6 [(0, .ref z0), (2, .int z1)] [] z 0 0 rSv (K6 z z0 z1)) (h : AH) (x0 : Nat) (x2 : Int32) (s2 : Int32) (s3 : Nat) : AO l g M_X12_must false h0 45 [(0, .ref x0), (2, .int x2)] [.int s2, .ref s3] h 0 0 rSv (f_X12_must_b45 N K6 h x0 x2 s2 s3) := by
  unfold f_X12_must_b45
  refine a_putz kc13 70 dX12_must_45 (by decide) rfl w_fieldLink_RainCoverModel_279 rfl rfl (fun h12 => ?_)
  refine a_aload_n dX12_must_48 rfl 0 rfl ?_
  refine a_dup dX12_must_49 rfl ?_
  refine a_geti kc13 69 dX12_must_50 (by decide) rfl w_fieldLink_RainCoverModel_283 (fun v13 => ?_)
  refine a_aload_n dX12_must_53 rfl 0 rfl ?_
  refine a_geti kc13 70 dX12_must_54 (by decide) rfl w_fieldLink_RainCoverModel_279 (fun v14 => ?_)
  refine a_if_eq 64 dX12_must_57 (by decide) (fun c15 => ?_) (fun c15 => ?_)
  · refine a_iconst (v := 1) dX12_must_64 (by decide) ?_
    exact t_X12_must_b65 h0 N K6 hK6 h12 x0 x2 1 v13 x0
  · refine a_iconst (v := 0) dX12_must_60 (by decide) ?_
    refine a_goto 65 dX12_must_61 (by decide) ?_
    exact t_X12_must_b65 h0 N K6 hK6 h12 x0 x2 0 v13 x0
set_option maxRecDepth 100000 in
set_option maxHeartbeats 4000000 in
theorem t_X12_must_b6_body (h0 : AH) (N : Nat) (K6 : AH → Nat → Int32 → Option AH) (hK6 : ∀ (z : AH) (z0 : Nat) (z1 : Int32), AO l g M_X12_must false h0 6 [(0, .ref z0), (2, .int z1)] [] z 0 0 rSv (K6 z z0 z1)) (h : AH) (x0 : Nat) (x2 : Int32) : AO l g M_X12_must false h0 6 [(0, .ref x0), (2, .int x2)] [] h 0 0 rSv (f_X12_must_b6_body N K6 h x0 x2) := by
  unfold f_X12_must_b6_body
  refine a_aload_n dX12_must_6 rfl 0 rfl ?_
  refine a_getr kc13 71 dX12_must_7 (by decide) rfl w_fieldLink_RainCoverModel_185 (fun v2 => ?_)
  refine a_iload_n dX12_must_10 rfl 1 rfl ?_
  refine a_iald dX12_must_11 (fun v3 => ?_)
  refine a_if_eq 75 dX12_must_12 (by decide) (fun c4 => ?_) (fun c4 => ?_)
  · exact a_vret dX12_must_75 rfl rfl (by decide) (by decide)
  · refine a_aload_n dX12_must_15 rfl 0 rfl ?_
    refine a_geti kc13 70 dX12_must_16 (by decide) rfl w_fieldLink_RainCoverModel_279 (fun v5 => ?_)
    refine a_if_ne 75 dX12_must_19 (by decide) (fun c6 => ?_) (fun c6 => ?_)
    · refine a_aload_n dX12_must_22 rfl 0 rfl ?_
      refine a_aload_n dX12_must_23 rfl 0 rfl ?_
      refine a_aload_n dX12_must_24 rfl 0 rfl ?_
      refine a_geti kc13 69 dX12_must_25 (by decide) rfl w_fieldLink_RainCoverModel_283 (fun v7 => ?_)
      refine a_cV_Pi (r := x0) (ci := 13) (as := [.int v7]) (st := [.ref x0]) dX12_must_28 (c_X12_byteAt l g h x0 v7) rfl km_X12_byteAt (hm_X12_byteAt) rfl (by decide) rfl (fun _ ee => g_X12_byteAt ee) w_methodLink_RainCoverModel_286 w_instanceMethod_RainCoverModel_byteAt__I_I w_selects_RainCoverModel_RainCoverModel_byteAt__I_I_RainCoverModel_byteAt__I_I ⟨⟨by decide, by decide⟩, ⟨by decide, by decide⟩⟩ (Nat.le_of_ble_eq_true rfl) (fun v8 => ?_)
      refine a_aload_n dX12_must_31 rfl 0 rfl ?_
      refine a_getr kc13 71 dX12_must_32 (by decide) rfl w_fieldLink_RainCoverModel_185 (fun v9 => ?_)
      refine a_iload_n dX12_must_35 rfl 1 rfl ?_
      refine a_iald dX12_must_36 (fun v10 => ?_)
      refine a_icmp_eq 44 dX12_must_37 (by decide) (fun c11 => ?_) (fun c11 => ?_)
      · refine a_iconst (v := 0) dX12_must_44 (by decide) ?_
        exact t_X12_must_b45 h0 N K6 hK6 h x0 x2 0 x0
      · refine a_iconst (v := 1) dX12_must_40 (by decide) ?_
        refine a_goto 45 dX12_must_41 (by decide) ?_
        exact t_X12_must_b45 h0 N K6 hK6 h x0 x2 1 x0
    · exact a_vret dX12_must_75 rfl rfl (by decide) (by decide)
set_option maxRecDepth 100000 in
set_option maxHeartbeats 4000000 in
theorem t_X12_must_b6 (h0 : AH) (N : Nat) : ∀ (n : Nat) (h : AH) (x0 : Nat) (x2 : Int32) , AO l g M_X12_must false h0 6 [(0, .ref x0), (2, .int x2)] [] h 0 0 rSv (f_X12_must_b6 N  n h x0 x2) := by
  intro n
  induction n with
  | zero => intro h x0 x2; exact a_eq rfl a_none
  | succ n ih => intro h x0 x2; exact a_eq rfl (t_X12_must_b6_body h0 N  (f_X12_must_b6 N  n) ih h x0 x2)
end
set_option maxRecDepth 100000 in
set_option maxHeartbeats 4000000 in
theorem c_X12_must (l : Launch) (g : GG) (h0 : AH) (N : Nat) (p0 : Nat) (p1 : Int32) : CN l g yX12_must M_X12_must false [.ref p0, .int p1] h0 rSv (f_X12_must h0 N p0 p1) := by
  refine CN.of (by decide) rfl (fun hh => by first | rfl | cases hh) (Nat.le_of_ble_eq_true rfl) ?_
  unfold f_X12_must
  refine a_gd (fun hkd => ?_)
  refine a_aload_n dX12_must_0 rfl 0 rfl ?_
  refine a_iload_n dX12_must_1 rfl 1 rfl ?_
  refine a_cV_Pi (r := p0) (ci := 13) (as := [.int p1]) (st := []) dX12_must_2 (c_X12_startOf l g h0 N p0 p1) rfl km_X12_startOf (hm_X12_startOf) rfl (by decide) rfl (fun _ ee => g_X12_startOf ee) w_methodLink_RainCoverModel_276 w_instanceMethod_RainCoverModel_startOf__I_I w_selects_RainCoverModel_RainCoverModel_startOf__I_I_RainCoverModel_startOf__I_I ⟨⟨by decide, by decide⟩, ⟨by decide, by decide⟩⟩ (Nat.le_of_ble_eq_true rfl) (fun v1 => ?_)
  refine a_istore_n (lc2 := [(2, .int v1), (0, .ref p0), (1, .int p1)]) dX12_must_5 rfl (by decide) rfl ?_
  refine a_pick (lc2 := [(0, .ref p0), (2, .int v1)]) [1, 0] rfl ?_
  exact t_X12_must_b6 h0 N N h0 p0 v1
theorem dX12_number_0 : decode cX12_number 0 = .ok (.iconst 0, 1) := by decide +kernel
theorem dX12_number_1 : decode cX12_number 1 = .ok (.istore_n 2, 1) := by decide +kernel
theorem dX12_number_2 : decode cX12_number 2 = .ok (.iconst 0, 1) := by decide +kernel
theorem dX12_number_3 : decode cX12_number 3 = .ok (.istore_n 3, 1) := by decide +kernel
theorem dX12_number_4 : decode cX12_number 4 = .ok (.aload_n 0, 1) := by decide +kernel
theorem dX12_number_5 : decode cX12_number 5 = .ok (.getfield 279, 3) := by decide +kernel
theorem dX12_number_8 : decode cX12_number 8 = .ok (.ifCond .ne 59, 3) := by decide +kernel
theorem dX12_number_11 : decode cX12_number 11 = .ok (.iload_n 2, 1) := by decide +kernel
theorem dX12_number_12 : decode cX12_number 12 = .ok (.iload_n 1, 1) := by decide +kernel
theorem dX12_number_13 : decode cX12_number 13 = .ok (.if_icmp .ge 54, 3) := by decide +kernel
theorem dX12_number_16 : decode cX12_number 16 = .ok (.aload_n 0, 1) := by decide +kernel
theorem dX12_number_17 : decode cX12_number 17 = .ok (.aload_n 0, 1) := by decide +kernel
theorem dX12_number_18 : decode cX12_number 18 = .ok (.getfield 283, 3) := by decide +kernel
theorem dX12_number_21 : decode cX12_number 21 = .ok (.invokevirtual 286, 3) := by decide +kernel
theorem dX12_number_24 : decode cX12_number 24 = .ok (.bipush 48, 2) := by decide +kernel
theorem dX12_number_26 : decode cX12_number 26 = .ok (.bipush 57, 2) := by decide +kernel
theorem dX12_number_28 : decode cX12_number 28 = .ok (.invokestatic 204, 3) := by decide +kernel
theorem dX12_number_31 : decode cX12_number 31 = .ok (.ifCond .eq 36, 3) := by decide +kernel
theorem dX12_number_34 : decode cX12_number 34 = .ok (.bipush 10, 2) := by decide +kernel
theorem dX12_number_36 : decode cX12_number 36 = .ok (.iload_n 3, 1) := by decide +kernel
theorem dX12_number_37 : decode cX12_number 37 = .ok (.imul, 1) := by decide +kernel
theorem dX12_number_38 : decode cX12_number 38 = .ok (.aload_n 0, 1) := by decide +kernel
theorem dX12_number_39 : decode cX12_number 39 = .ok (.aload_n 0, 1) := by decide +kernel
theorem dX12_number_40 : decode cX12_number 40 = .ok (.getfield 283, 3) := by decide +kernel
theorem dX12_number_43 : decode cX12_number 43 = .ok (.invokevirtual 286, 3) := by decide +kernel
theorem dX12_number_46 : decode cX12_number 46 = .ok (.iadd, 1) := by decide +kernel
theorem dX12_number_47 : decode cX12_number 47 = .ok (.bipush 48, 2) := by decide +kernel
theorem dX12_number_49 : decode cX12_number 49 = .ok (.isub, 1) := by decide +kernel
theorem dX12_number_50 : decode cX12_number 50 = .ok (.istore_n 3, 1) := by decide +kernel
theorem dX12_number_51 : decode cX12_number 51 = .ok (.aload_n 0, 1) := by decide +kernel
theorem dX12_number_52 : decode cX12_number 52 = .ok (.dup, 1) := by decide +kernel
theorem dX12_number_53 : decode cX12_number 53 = .ok (.getfield 283, 3) := by decide +kernel
theorem dX12_number_56 : decode cX12_number 56 = .ok (.iconst 1, 1) := by decide +kernel
theorem dX12_number_57 : decode cX12_number 57 = .ok (.iadd, 1) := by decide +kernel
theorem dX12_number_58 : decode cX12_number 58 = .ok (.putfield 283, 3) := by decide +kernel
theorem dX12_number_61 : decode cX12_number 61 = .ok (.iinc 2 1, 3) := by decide +kernel
theorem dX12_number_64 : decode cX12_number 64 = .ok (.goto (-60), 3) := by decide +kernel
theorem dX12_number_67 : decode cX12_number 67 = .ok (.aload_n 0, 1) := by decide +kernel
theorem dX12_number_68 : decode cX12_number 68 = .ok (.aload_n 0, 1) := by decide +kernel
theorem dX12_number_69 : decode cX12_number 69 = .ok (.getfield 279, 3) := by decide +kernel
theorem dX12_number_72 : decode cX12_number 72 = .ok (.ifCond .ne 7, 3) := by decide +kernel
theorem dX12_number_75 : decode cX12_number 75 = .ok (.iload_n 2, 1) := by decide +kernel
theorem dX12_number_76 : decode cX12_number 76 = .ok (.ifCond .ne 7, 3) := by decide +kernel
theorem dX12_number_79 : decode cX12_number 79 = .ok (.iconst 1, 1) := by decide +kernel
theorem dX12_number_80 : decode cX12_number 80 = .ok (.goto 4, 3) := by decide +kernel
theorem dX12_number_83 : decode cX12_number 83 = .ok (.iconst 0, 1) := by decide +kernel
theorem dX12_number_84 : decode cX12_number 84 = .ok (.putfield 279, 3) := by decide +kernel
theorem dX12_number_87 : decode cX12_number 87 = .ok (.iload_n 3, 1) := by decide +kernel
theorem dX12_number_88 : decode cX12_number 88 = .ok (.ireturn, 1) := by decide +kernel
abbrev M_X12_number : MI := (RX12, cX12_number, 4, (some .int), ({ frames := 1, cells := 0, slots := 0, locals := 22 } : Room), 0, 0, false)
def f_X12_number_b84 (N : Nat) (h : AH) (x3 : Int32) (s1 : Int32) (s2 : Nat) : Option (Int32 × AH) := (xpz h s2 13 70 s1).bind fun h15 => some (x3, h15)
def f_X12_number_b79 (N : Nat) (h : AH) (x3 : Int32) (s1 : Nat) : Option (Int32 × AH) := f_X12_number_b84 N h x3 1 s1
def f_X12_number_b67 (N : Nat) (h : AH) (x0 : Nat) (x2 : Int32) (x3 : Int32) : Option (Int32 × AH) := (xgi h x0 13 70).bind fun v12 => (if v12 = 0 then (if x2 = 0 then f_X12_number_b79 N h x3 x0 else f_X12_number_b84 N h x3 0 x0) else f_X12_number_b79 N h x3 x0)
def f_X12_number_b4_body (N : Nat) (K4 : AH → Nat → Int32 → Int32 → Int32 → Option (Int32 × AH)) (h : AH) (x0 : Nat) (x1 : Int32) (x2 : Int32) (x3 : Int32) : Option (Int32 × AH) := (xgi h x0 13 70).bind fun v1 => (if v1 = 0 then (if x1 ≤ x2 then f_X12_number_b67 N h x0 x2 x3 else (xgi h x0 13 69).bind fun v4 => (f_X12_byteAt h x0 v4).bind fun v5 => (f_X12_in h v5 48 57).bind fun v6 => (if v6 = 0 then f_X12_number_b67 N h x0 x2 x3 else (xgi h x0 13 69).bind fun v8 => (f_X12_byteAt h x0 v8).bind fun v9 => (xgi h x0 13 69).bind fun v10 => (xpi h x0 13 69 (v10 + 1)).bind fun h11 => K4 h11 x0 x1 (x2 + 1) (((10 * x3) + v9) - 48))) else f_X12_number_b67 N h x0 x2 x3)
def f_X12_number_b4 (N : Nat) : Nat → AH → Nat → Int32 → Int32 → Int32 → Option (Int32 × AH)
  | 0, _, _, _, _, _ => none
  | n + 1, h, x0, x1, x2, x3 => f_X12_number_b4_body N  (f_X12_number_b4 N  n) h x0 x1 x2 x3
def f_X12_number (h0 : AH) (N : Nat) (p0 : Nat) (p1 : Int32) : Option (Int32 × AH) := if kd h0 p0 = 13 + 1 then f_X12_number_b4 N N h0 p0 p1 0 0 else none
theorem g_X12_number {h0 : AH} {N : Nat} {p0 : Nat} {p1 : Int32} {x : (Int32 × AH)} (e : f_X12_number h0 N p0 p1 = some x) : kd h0 p0 = 13 + 1 := by
  unfold f_X12_number at e
  by_cases hk : kd h0 p0 = 13 + 1
  · exact hk
  · rw [if_neg hk] at e
    cases e
theorem km_X12_number : KM yX12_number M_X12_number 1 := ⟨in_tb 1556 (by decide +kernel) rfl, in_tb 9 (by decide +kernel) rfl, by decide +kernel, rfl, rfl⟩
theorem hm_X12_number : M_X12_number.2.2.2.2.2.1 = 0 ∧ M_X12_number.2.2.2.2.2.2.1 = 0 := ⟨rfl, rfl⟩
section
variable {l : Launch} {g : GG}
set_option maxRecDepth 100000 in
set_option maxHeartbeats 4000000 in
theorem t_X12_number_b84 (h0 : AH) (N : Nat) (h : AH) (x3 : Int32) (s1 : Int32) (s2 : Nat) : AO l g M_X12_number false h0 84 [(3, .int x3)] [.int s1, .ref s2] h 0 0 rSi (f_X12_number_b84 N  h x3 s1 s2) := by
  unfold f_X12_number_b84
  refine a_putz kc13 70 dX12_number_84 (by decide) rfl w_fieldLink_RainCoverModel_279 rfl rfl (fun h15 => ?_)
  refine a_iload_n dX12_number_87 rfl 0 rfl ?_
  exact a_iret dX12_number_88 rfl rfl (by decide) (by decide)
set_option maxRecDepth 100000 in
set_option maxHeartbeats 4000000 in
theorem t_X12_number_b79 (h0 : AH) (N : Nat) (h : AH) (x3 : Int32) (s1 : Nat) : AO l g M_X12_number false h0 79 [(3, .int x3)] [.ref s1] h 0 0 rSi (f_X12_number_b79 N  h x3 s1) := by
  unfold f_X12_number_b79
  refine a_iconst (v := 1) dX12_number_79 (by decide) ?_
  refine a_goto 84 dX12_number_80 (by decide) ?_
  exact t_X12_number_b84 h0 N h x3 1 s1
set_option maxRecDepth 100000 in
set_option maxHeartbeats 4000000 in
theorem t_X12_number_b67 (h0 : AH) (N : Nat) (h : AH) (x0 : Nat) (x2 : Int32) (x3 : Int32) : AO l g M_X12_number false h0 67 [(0, .ref x0), (2, .int x2), (3, .int x3)] [] h 0 0 rSi (f_X12_number_b67 N  h x0 x2 x3) := by
  unfold f_X12_number_b67
  refine a_aload_n dX12_number_67 rfl 0 rfl ?_
  refine a_aload_n dX12_number_68 rfl 0 rfl ?_
  refine a_geti kc13 70 dX12_number_69 (by decide) rfl w_fieldLink_RainCoverModel_279 (fun v12 => ?_)
  refine a_if_ne 79 dX12_number_72 (by decide) (fun c13 => ?_) (fun c13 => ?_)
  · refine a_iload_n dX12_number_75 rfl 1 rfl ?_
    refine a_if_ne 83 dX12_number_76 (by decide) (fun c14 => ?_) (fun c14 => ?_)
    · refine a_pick (lc2 := [(3, .int x3)]) [2] rfl ?_
      exact t_X12_number_b79 h0 N h x3 x0
    · refine a_iconst (v := 0) dX12_number_83 (by decide) ?_
      refine a_pick (lc2 := [(3, .int x3)]) [2] rfl ?_
      exact t_X12_number_b84 h0 N h x3 0 x0
  · refine a_pick (lc2 := [(3, .int x3)]) [2] rfl ?_
    exact t_X12_number_b79 h0 N h x3 x0
set_option maxRecDepth 100000 in
set_option maxHeartbeats 4000000 in
theorem t_X12_number_b4_body (h0 : AH) (N : Nat) (K4 : AH → Nat → Int32 → Int32 → Int32 → Option (Int32 × AH)) (hK4 : ∀ (z : AH) (z0 : Nat) (z1 : Int32) (z2 : Int32) (z3 : Int32), AO l g M_X12_number false h0 4 [(0, .ref z0), (1, .int z1), (2, .int z2), (3, .int z3)] [] z 0 0 rSi (K4 z z0 z1 z2 z3)) (h : AH) (x0 : Nat) (x1 : Int32) (x2 : Int32) (x3 : Int32) : AO l g M_X12_number false h0 4 [(0, .ref x0), (1, .int x1), (2, .int x2), (3, .int x3)] [] h 0 0 rSi (f_X12_number_b4_body N K4 h x0 x1 x2 x3) := by
  unfold f_X12_number_b4_body
  refine a_aload_n dX12_number_4 rfl 0 rfl ?_
  refine a_geti kc13 70 dX12_number_5 (by decide) rfl w_fieldLink_RainCoverModel_279 (fun v1 => ?_)
  refine a_if_ne 67 dX12_number_8 (by decide) (fun c2 => ?_) (fun c2 => ?_)
  · refine a_iload_n dX12_number_11 rfl 2 rfl ?_
    refine a_iload_n dX12_number_12 rfl 1 rfl ?_
    refine a_icmp_ge 67 dX12_number_13 (by decide) (fun c3 => ?_) (fun c3 => ?_)
    · refine a_pick (lc2 := [(0, .ref x0), (2, .int x2), (3, .int x3)]) [0, 2, 3] rfl ?_
      exact t_X12_number_b67 h0 N h x0 x2 x3
    · refine a_aload_n dX12_number_16 rfl 0 rfl ?_
      refine a_aload_n dX12_number_17 rfl 0 rfl ?_
      refine a_geti kc13 69 dX12_number_18 (by decide) rfl w_fieldLink_RainCoverModel_283 (fun v4 => ?_)
      refine a_cV_Pi (r := x0) (ci := 13) (as := [.int v4]) (st := []) dX12_number_21 (c_X12_byteAt l g h x0 v4) rfl km_X12_byteAt (hm_X12_byteAt) rfl (by decide) rfl (fun _ ee => g_X12_byteAt ee) w_methodLink_RainCoverModel_286 w_instanceMethod_RainCoverModel_byteAt__I_I w_selects_RainCoverModel_RainCoverModel_byteAt__I_I_RainCoverModel_byteAt__I_I ⟨⟨by decide, by decide⟩, ⟨by decide, by decide⟩⟩ (Nat.le_of_ble_eq_true rfl) (fun v5 => ?_)
      refine a_bipush (v := 48) dX12_number_24 (by decide) ?_
      refine a_bipush (v := 57) dX12_number_26 (by decide) ?_
      refine a_cS_Pi (as := [.int v5, .int 48, .int 57]) (st := []) dX12_number_28 (c_X12_in l g h v5 48 57) rfl km_X12_in (hm_X12_in) w_methodLink_RainCoverModel_204 w_static_RainCoverModel_in__III_Z ⟨⟨by decide, by decide⟩, ⟨by decide, by decide⟩⟩ (Nat.le_of_ble_eq_true rfl) (fun v6 => ?_)
      refine a_if_eq 67 dX12_number_31 (by decide) (fun c7 => ?_) (fun c7 => ?_)
      · refine a_pick (lc2 := [(0, .ref x0), (2, .int x2), (3, .int x3)]) [0, 2, 3] rfl ?_
        exact t_X12_number_b67 h0 N h x0 x2 x3
      · refine a_bipush (v := 10) dX12_number_34 (by decide) ?_
        refine a_iload_n dX12_number_36 rfl 3 rfl ?_
        refine a_imul dX12_number_37 ?_
        refine a_aload_n dX12_number_38 rfl 0 rfl ?_
        refine a_aload_n dX12_number_39 rfl 0 rfl ?_
        refine a_geti kc13 69 dX12_number_40 (by decide) rfl w_fieldLink_RainCoverModel_283 (fun v8 => ?_)
        refine a_cV_Pi (r := x0) (ci := 13) (as := [.int v8]) (st := [.int (10 * x3)]) dX12_number_43 (c_X12_byteAt l g h x0 v8) rfl km_X12_byteAt (hm_X12_byteAt) rfl (by decide) rfl (fun _ ee => g_X12_byteAt ee) w_methodLink_RainCoverModel_286 w_instanceMethod_RainCoverModel_byteAt__I_I w_selects_RainCoverModel_RainCoverModel_byteAt__I_I_RainCoverModel_byteAt__I_I ⟨⟨by decide, by decide⟩, ⟨by decide, by decide⟩⟩ (Nat.le_of_ble_eq_true rfl) (fun v9 => ?_)
        refine a_iadd dX12_number_46 ?_
        refine a_bipush (v := 48) dX12_number_47 (by decide) ?_
        refine a_isub dX12_number_49 ?_
        refine a_istore_n (lc2 := [(3, .int (((10 * x3) + v9) - 48)), (0, .ref x0), (1, .int x1), (2, .int x2)]) dX12_number_50 rfl (by decide) rfl ?_
        refine a_aload_n dX12_number_51 rfl 1 rfl ?_
        refine a_dup dX12_number_52 rfl ?_
        refine a_geti kc13 69 dX12_number_53 (by decide) rfl w_fieldLink_RainCoverModel_283 (fun v10 => ?_)
        refine a_iconst (v := 1) dX12_number_56 (by decide) ?_
        refine a_iadd dX12_number_57 ?_
        refine a_puti kc13 69 dX12_number_58 (by decide) rfl w_fieldLink_RainCoverModel_283 rfl rfl (fun h11 => ?_)
        refine a_iinc (q := 3) (v := (x2 + 1)) (lc2 := [(2, .int (x2 + 1)), (3, .int (((10 * x3) + v9) - 48)), (0, .ref x0), (1, .int x1)]) dX12_number_61 rfl rfl (by decide) rfl ?_
        refine a_goto 4 dX12_number_64 (by decide) ?_
        refine a_pick (lc2 := [(0, .ref x0), (1, .int x1), (2, .int (x2 + 1)), (3, .int (((10 * x3) + v9) - 48))]) [2, 3, 0, 1] rfl ?_
        exact hK4 h11 x0 x1 (x2 + 1) (((10 * x3) + v9) - 48)
  · refine a_pick (lc2 := [(0, .ref x0), (2, .int x2), (3, .int x3)]) [0, 2, 3] rfl ?_
    exact t_X12_number_b67 h0 N h x0 x2 x3
set_option maxRecDepth 100000 in
set_option maxHeartbeats 4000000 in
theorem t_X12_number_b4 (h0 : AH) (N : Nat) : ∀ (n : Nat) (h : AH) (x0 : Nat) (x1 : Int32) (x2 : Int32) (x3 : Int32) , AO l g M_X12_number false h0 4 [(0, .ref x0), (1, .int x1), (2, .int x2), (3, .int x3)] [] h 0 0 rSi (f_X12_number_b4 N  n h x0 x1 x2 x3) := by
  intro n
  induction n with
  | zero => intro h x0 x1 x2 x3; exact a_eq rfl a_none
  | succ n ih => intro h x0 x1 x2 x3; exact a_eq rfl (t_X12_number_b4_body h0 N  (f_X12_number_b4 N  n) ih h x0 x1 x2 x3)
end
set_option maxRecDepth 100000 in
set_option maxHeartbeats 4000000 in
theorem c_X12_number (l : Launch) (g : GG) (h0 : AH) (N : Nat) (p0 : Nat) (p1 : Int32) : CN l g yX12_number M_X12_number false [.ref p0, .int p1] h0 rSi (f_X12_number h0 N p0 p1) := by
  refine CN.of (by decide) rfl (fun hh => by first | rfl | cases hh) (Nat.le_of_ble_eq_true rfl) ?_
  unfold f_X12_number
  refine a_gd (fun hkd => ?_)
  refine a_iconst (v := 0) dX12_number_0 (by decide) ?_
  refine a_istore_n (lc2 := [(2, .int 0), (0, .ref p0), (1, .int p1)]) dX12_number_1 rfl (by decide) rfl ?_
  refine a_iconst (v := 0) dX12_number_2 (by decide) ?_
  refine a_istore_n (lc2 := [(3, .int 0), (2, .int 0), (0, .ref p0), (1, .int p1)]) dX12_number_3 rfl (by decide) rfl ?_
  refine a_pick (lc2 := [(0, .ref p0), (1, .int p1), (2, .int 0), (3, .int 0)]) [2, 3, 1, 0] rfl ?_
  exact t_X12_number_b4 h0 N N h0 p0 p1 0 0
theorem dX12_readsCase_0 : decode cX12_readsCase 0 = .ok (.aload_n 0, 1) := by decide +kernel
theorem dX12_readsCase_1 : decode cX12_readsCase 1 = .ok (.aload_n 0, 1) := by decide +kernel
theorem dX12_readsCase_2 : decode cX12_readsCase 2 = .ok (.getfield 283, 3) := by decide +kernel
theorem dX12_readsCase_5 : decode cX12_readsCase 5 = .ok (.invokevirtual 286, 3) := by decide +kernel
theorem dX12_readsCase_8 : decode cX12_readsCase 8 = .ok (.istore_n 2, 1) := by decide +kernel
theorem dX12_readsCase_9 : decode cX12_readsCase 9 = .ok (.iload_n 2, 1) := by decide +kernel
theorem dX12_readsCase_10 : decode cX12_readsCase 10 = .ok (.bipush 115, 2) := by decide +kernel
theorem dX12_readsCase_12 : decode cX12_readsCase 12 = .ok (.if_icmp .ne 8, 3) := by decide +kernel
theorem dX12_readsCase_15 : decode cX12_readsCase 15 = .ok (.bipush 8, 2) := by decide +kernel
theorem dX12_readsCase_17 : decode cX12_readsCase 17 = .ok (.goto 27, 3) := by decide +kernel
theorem dX12_readsCase_20 : decode cX12_readsCase 20 = .ok (.iload_n 2, 1) := by decide +kernel
theorem dX12_readsCase_21 : decode cX12_readsCase 21 = .ok (.bipush 100, 2) := by decide +kernel
theorem dX12_readsCase_23 : decode cX12_readsCase 23 = .ok (.if_icmp .ne 8, 3) := by decide +kernel
theorem dX12_readsCase_26 : decode cX12_readsCase 26 = .ok (.bipush 9, 2) := by decide +kernel
theorem dX12_readsCase_28 : decode cX12_readsCase 28 = .ok (.goto 16, 3) := by decide +kernel
theorem dX12_readsCase_31 : decode cX12_readsCase 31 = .ok (.iload_n 2, 1) := by decide +kernel
theorem dX12_readsCase_32 : decode cX12_readsCase 32 = .ok (.bipush 103, 2) := by decide +kernel
theorem dX12_readsCase_34 : decode cX12_readsCase 34 = .ok (.if_icmp .ne 8, 3) := by decide +kernel
theorem dX12_readsCase_37 : decode cX12_readsCase 37 = .ok (.bipush 10, 2) := by decide +kernel
theorem dX12_readsCase_39 : decode cX12_readsCase 39 = .ok (.goto 5, 3) := by decide +kernel
theorem dX12_readsCase_42 : decode cX12_readsCase 42 = .ok (.bipush 11, 2) := by decide +kernel
theorem dX12_readsCase_44 : decode cX12_readsCase 44 = .ok (.istore_n 3, 1) := by decide +kernel
theorem dX12_readsCase_45 : decode cX12_readsCase 45 = .ok (.aload_n 0, 1) := by decide +kernel
theorem dX12_readsCase_46 : decode cX12_readsCase 46 = .ok (.iload_n 3, 1) := by decide +kernel
theorem dX12_readsCase_47 : decode cX12_readsCase 47 = .ok (.invokevirtual 289, 3) := by decide +kernel
theorem dX12_readsCase_50 : decode cX12_readsCase 50 = .ok (.aload_n 0, 1) := by decide +kernel
theorem dX12_readsCase_51 : decode cX12_readsCase 51 = .ok (.getfield 64, 3) := by decide +kernel
theorem dX12_readsCase_54 : decode cX12_readsCase 54 = .ok (.iload_n 1, 1) := by decide +kernel
theorem dX12_readsCase_55 : decode cX12_readsCase 55 = .ok (.iload_n 3, 1) := by decide +kernel
theorem dX12_readsCase_56 : decode cX12_readsCase 56 = .ok (.iastore, 1) := by decide +kernel
theorem dX12_readsCase_57 : decode cX12_readsCase 57 = .ok (.aload_n 0, 1) := by decide +kernel
theorem dX12_readsCase_58 : decode cX12_readsCase 58 = .ok (.getfield 67, 3) := by decide +kernel
theorem dX12_readsCase_61 : decode cX12_readsCase 61 = .ok (.iload_n 1, 1) := by decide +kernel
theorem dX12_readsCase_62 : decode cX12_readsCase 62 = .ok (.aload_n 0, 1) := by decide +kernel
theorem dX12_readsCase_63 : decode cX12_readsCase 63 = .ok (.iconst 2, 1) := by decide +kernel
theorem dX12_readsCase_64 : decode cX12_readsCase 64 = .ok (.invokevirtual 292, 3) := by decide +kernel
theorem dX12_readsCase_67 : decode cX12_readsCase 67 = .ok (.iastore, 1) := by decide +kernel
theorem dX12_readsCase_68 : decode cX12_readsCase 68 = .ok (.iload_n 3, 1) := by decide +kernel
theorem dX12_readsCase_69 : decode cX12_readsCase 69 = .ok (.bipush 11, 2) := by decide +kernel
theorem dX12_readsCase_71 : decode cX12_readsCase 71 = .ok (.if_icmp .eq 23, 3) := by decide +kernel
theorem dX12_readsCase_74 : decode cX12_readsCase 74 = .ok (.aload_n 0, 1) := by decide +kernel
theorem dX12_readsCase_75 : decode cX12_readsCase 75 = .ok (.bipush 6, 2) := by decide +kernel
theorem dX12_readsCase_77 : decode cX12_readsCase 77 = .ok (.invokevirtual 289, 3) := by decide +kernel
theorem dX12_readsCase_80 : decode cX12_readsCase 80 = .ok (.aload_n 0, 1) := by decide +kernel
theorem dX12_readsCase_81 : decode cX12_readsCase 81 = .ok (.getfield 70, 3) := by decide +kernel
theorem dX12_readsCase_84 : decode cX12_readsCase 84 = .ok (.iload_n 1, 1) := by decide +kernel
theorem dX12_readsCase_85 : decode cX12_readsCase 85 = .ok (.aload_n 0, 1) := by decide +kernel
theorem dX12_readsCase_86 : decode cX12_readsCase 86 = .ok (.iconst 2, 1) := by decide +kernel
theorem dX12_readsCase_87 : decode cX12_readsCase 87 = .ok (.invokevirtual 292, 3) := by decide +kernel
theorem dX12_readsCase_90 : decode cX12_readsCase 90 = .ok (.iastore, 1) := by decide +kernel
theorem dX12_readsCase_91 : decode cX12_readsCase 91 = .ok (.goto 15, 3) := by decide +kernel
theorem dX12_readsCase_94 : decode cX12_readsCase 94 = .ok (.aload_n 0, 1) := by decide +kernel
theorem dX12_readsCase_95 : decode cX12_readsCase 95 = .ok (.getfield 70, 3) := by decide +kernel
theorem dX12_readsCase_98 : decode cX12_readsCase 98 = .ok (.iload_n 1, 1) := by decide +kernel
theorem dX12_readsCase_99 : decode cX12_readsCase 99 = .ok (.aload_n 0, 1) := by decide +kernel
theorem dX12_readsCase_100 : decode cX12_readsCase 100 = .ok (.getfield 67, 3) := by decide +kernel
theorem dX12_readsCase_103 : decode cX12_readsCase 103 = .ok (.iload_n 1, 1) := by decide +kernel
theorem dX12_readsCase_104 : decode cX12_readsCase 104 = .ok (.iaload, 1) := by decide +kernel
theorem dX12_readsCase_105 : decode cX12_readsCase 105 = .ok (.iastore, 1) := by decide +kernel
theorem dX12_readsCase_106 : decode cX12_readsCase 106 = .ok (.aload_n 0, 1) := by decide +kernel
theorem dX12_readsCase_107 : decode cX12_readsCase 107 = .ok (.aload_n 0, 1) := by decide +kernel
theorem dX12_readsCase_108 : decode cX12_readsCase 108 = .ok (.getfield 279, 3) := by decide +kernel
theorem dX12_readsCase_111 : decode cX12_readsCase 111 = .ok (.ifCond .ne 16, 3) := by decide +kernel
theorem dX12_readsCase_114 : decode cX12_readsCase 114 = .ok (.aload_n 0, 1) := by decide +kernel
theorem dX12_readsCase_115 : decode cX12_readsCase 115 = .ok (.aload_n 0, 1) := by decide +kernel
theorem dX12_readsCase_116 : decode cX12_readsCase 116 = .ok (.getfield 283, 3) := by decide +kernel
theorem dX12_readsCase_119 : decode cX12_readsCase 119 = .ok (.invokevirtual 286, 3) := by decide +kernel
theorem dX12_readsCase_122 : decode cX12_readsCase 122 = .ok (.bipush 32, 2) := by decide +kernel
theorem dX12_readsCase_124 : decode cX12_readsCase 124 = .ok (.if_icmp .eq 7, 3) := by decide +kernel
theorem dX12_readsCase_127 : decode cX12_readsCase 127 = .ok (.iconst 1, 1) := by decide +kernel
theorem dX12_readsCase_128 : decode cX12_readsCase 128 = .ok (.goto 4, 3) := by decide +kernel
theorem dX12_readsCase_131 : decode cX12_readsCase 131 = .ok (.iconst 0, 1) := by decide +kernel
theorem dX12_readsCase_132 : decode cX12_readsCase 132 = .ok (.putfield 279, 3) := by decide +kernel
theorem dX12_readsCase_135 : decode cX12_readsCase 135 = .ok (.aload_n 0, 1) := by decide +kernel
theorem dX12_readsCase_136 : decode cX12_readsCase 136 = .ok (.dup, 1) := by decide +kernel
theorem dX12_readsCase_137 : decode cX12_readsCase 137 = .ok (.getfield 283, 3) := by decide +kernel
theorem dX12_readsCase_140 : decode cX12_readsCase 140 = .ok (.aload_n 0, 1) := by decide +kernel
theorem dX12_readsCase_141 : decode cX12_readsCase 141 = .ok (.getfield 279, 3) := by decide +kernel
theorem dX12_readsCase_144 : decode cX12_readsCase 144 = .ok (.ifCond .eq 7, 3) := by decide +kernel
theorem dX12_readsCase_147 : decode cX12_readsCase 147 = .ok (.iconst 0, 1) := by decide +kernel
theorem dX12_readsCase_148 : decode cX12_readsCase 148 = .ok (.goto 4, 3) := by decide +kernel
theorem dX12_readsCase_151 : decode cX12_readsCase 151 = .ok (.iconst 1, 1) := by decide +kernel
theorem dX12_readsCase_152 : decode cX12_readsCase 152 = .ok (.iadd, 1) := by decide +kernel
theorem dX12_readsCase_153 : decode cX12_readsCase 153 = .ok (.putfield 283, 3) := by decide +kernel
theorem dX12_readsCase_156 : decode cX12_readsCase 156 = .ok (.aload_n 0, 1) := by decide +kernel
theorem dX12_readsCase_157 : decode cX12_readsCase 157 = .ok (.aload_n 0, 1) := by decide +kernel
theorem dX12_readsCase_158 : decode cX12_readsCase 158 = .ok (.getfield 283, 3) := by decide +kernel
theorem dX12_readsCase_161 : decode cX12_readsCase 161 = .ok (.invokevirtual 286, 3) := by decide +kernel
theorem dX12_readsCase_164 : decode cX12_readsCase 164 = .ok (.istore 4, 2) := by decide +kernel
theorem dX12_readsCase_166 : decode cX12_readsCase 166 = .ok (.aload_n 0, 1) := by decide +kernel
theorem dX12_readsCase_167 : decode cX12_readsCase 167 = .ok (.aload_n 0, 1) := by decide +kernel
theorem dX12_readsCase_168 : decode cX12_readsCase 168 = .ok (.getfield 279, 3) := by decide +kernel
theorem dX12_readsCase_171 : decode cX12_readsCase 171 = .ok (.ifCond .ne 17, 3) := by decide +kernel
theorem dX12_readsCase_174 : decode cX12_readsCase 174 = .ok (.iload 4, 2) := by decide +kernel
theorem dX12_readsCase_176 : decode cX12_readsCase 176 = .ok (.bipush 60, 2) := by decide +kernel
theorem dX12_readsCase_178 : decode cX12_readsCase 178 = .ok (.if_icmp .eq 14, 3) := by decide +kernel
theorem dX12_readsCase_181 : decode cX12_readsCase 181 = .ok (.iload 4, 2) := by decide +kernel
theorem dX12_readsCase_183 : decode cX12_readsCase 183 = .ok (.bipush 62, 2) := by decide +kernel
theorem dX12_readsCase_185 : decode cX12_readsCase 185 = .ok (.if_icmp .eq 7, 3) := by decide +kernel
theorem dX12_readsCase_188 : decode cX12_readsCase 188 = .ok (.iconst 1, 1) := by decide +kernel
theorem dX12_readsCase_189 : decode cX12_readsCase 189 = .ok (.goto 4, 3) := by decide +kernel
theorem dX12_readsCase_192 : decode cX12_readsCase 192 = .ok (.iconst 0, 1) := by decide +kernel
theorem dX12_readsCase_193 : decode cX12_readsCase 193 = .ok (.putfield 279, 3) := by decide +kernel
theorem dX12_readsCase_196 : decode cX12_readsCase 196 = .ok (.aload_n 0, 1) := by decide +kernel
theorem dX12_readsCase_197 : decode cX12_readsCase 197 = .ok (.dup, 1) := by decide +kernel
theorem dX12_readsCase_198 : decode cX12_readsCase 198 = .ok (.getfield 283, 3) := by decide +kernel
theorem dX12_readsCase_201 : decode cX12_readsCase 201 = .ok (.aload_n 0, 1) := by decide +kernel
theorem dX12_readsCase_202 : decode cX12_readsCase 202 = .ok (.getfield 279, 3) := by decide +kernel
theorem dX12_readsCase_205 : decode cX12_readsCase 205 = .ok (.ifCond .eq 7, 3) := by decide +kernel
theorem dX12_readsCase_208 : decode cX12_readsCase 208 = .ok (.iconst 0, 1) := by decide +kernel
theorem dX12_readsCase_209 : decode cX12_readsCase 209 = .ok (.goto 4, 3) := by decide +kernel
theorem dX12_readsCase_212 : decode cX12_readsCase 212 = .ok (.iconst 1, 1) := by decide +kernel
theorem dX12_readsCase_213 : decode cX12_readsCase 213 = .ok (.iadd, 1) := by decide +kernel
theorem dX12_readsCase_214 : decode cX12_readsCase 214 = .ok (.putfield 283, 3) := by decide +kernel
theorem dX12_readsCase_217 : decode cX12_readsCase 217 = .ok (.aload_n 0, 1) := by decide +kernel
theorem dX12_readsCase_218 : decode cX12_readsCase 218 = .ok (.getfield 76, 3) := by decide +kernel
theorem dX12_readsCase_221 : decode cX12_readsCase 221 = .ok (.iload_n 1, 1) := by decide +kernel
theorem dX12_readsCase_222 : decode cX12_readsCase 222 = .ok (.iload 4, 2) := by decide +kernel
theorem dX12_readsCase_224 : decode cX12_readsCase 224 = .ok (.bipush 60, 2) := by decide +kernel
theorem dX12_readsCase_226 : decode cX12_readsCase 226 = .ok (.if_icmp .ne 7, 3) := by decide +kernel
theorem dX12_readsCase_229 : decode cX12_readsCase 229 = .ok (.iconst 1, 1) := by decide +kernel
theorem dX12_readsCase_230 : decode cX12_readsCase 230 = .ok (.goto 4, 3) := by decide +kernel
theorem dX12_readsCase_233 : decode cX12_readsCase 233 = .ok (.iconst 0, 1) := by decide +kernel
theorem dX12_readsCase_234 : decode cX12_readsCase 234 = .ok (.bastore, 1) := by decide +kernel
theorem dX12_readsCase_235 : decode cX12_readsCase 235 = .ok (.aload_n 0, 1) := by decide +kernel
theorem dX12_readsCase_236 : decode cX12_readsCase 236 = .ok (.aload_n 0, 1) := by decide +kernel
theorem dX12_readsCase_237 : decode cX12_readsCase 237 = .ok (.getfield 279, 3) := by decide +kernel
theorem dX12_readsCase_240 : decode cX12_readsCase 240 = .ok (.ifCond .ne 16, 3) := by decide +kernel
theorem dX12_readsCase_243 : decode cX12_readsCase 243 = .ok (.aload_n 0, 1) := by decide +kernel
theorem dX12_readsCase_244 : decode cX12_readsCase 244 = .ok (.aload_n 0, 1) := by decide +kernel
theorem dX12_readsCase_245 : decode cX12_readsCase 245 = .ok (.getfield 283, 3) := by decide +kernel
theorem dX12_readsCase_248 : decode cX12_readsCase 248 = .ok (.invokevirtual 286, 3) := by decide +kernel
theorem dX12_readsCase_251 : decode cX12_readsCase 251 = .ok (.bipush 32, 2) := by decide +kernel
theorem dX12_readsCase_253 : decode cX12_readsCase 253 = .ok (.if_icmp .eq 7, 3) := by decide +kernel
theorem dX12_readsCase_256 : decode cX12_readsCase 256 = .ok (.iconst 1, 1) := by decide +kernel
theorem dX12_readsCase_257 : decode cX12_readsCase 257 = .ok (.goto 4, 3) := by decide +kernel
theorem dX12_readsCase_260 : decode cX12_readsCase 260 = .ok (.iconst 0, 1) := by decide +kernel
theorem dX12_readsCase_261 : decode cX12_readsCase 261 = .ok (.putfield 279, 3) := by decide +kernel
theorem dX12_readsCase_264 : decode cX12_readsCase 264 = .ok (.aload_n 0, 1) := by decide +kernel
theorem dX12_readsCase_265 : decode cX12_readsCase 265 = .ok (.dup, 1) := by decide +kernel
theorem dX12_readsCase_266 : decode cX12_readsCase 266 = .ok (.getfield 283, 3) := by decide +kernel
theorem dX12_readsCase_269 : decode cX12_readsCase 269 = .ok (.aload_n 0, 1) := by decide +kernel
theorem dX12_readsCase_270 : decode cX12_readsCase 270 = .ok (.getfield 279, 3) := by decide +kernel
theorem dX12_readsCase_273 : decode cX12_readsCase 273 = .ok (.ifCond .eq 7, 3) := by decide +kernel
theorem dX12_readsCase_276 : decode cX12_readsCase 276 = .ok (.iconst 0, 1) := by decide +kernel
theorem dX12_readsCase_277 : decode cX12_readsCase 277 = .ok (.goto 4, 3) := by decide +kernel
theorem dX12_readsCase_280 : decode cX12_readsCase 280 = .ok (.iconst 1, 1) := by decide +kernel
theorem dX12_readsCase_281 : decode cX12_readsCase 281 = .ok (.iadd, 1) := by decide +kernel
theorem dX12_readsCase_282 : decode cX12_readsCase 282 = .ok (.putfield 283, 3) := by decide +kernel
theorem dX12_readsCase_285 : decode cX12_readsCase 285 = .ok (.aload_n 0, 1) := by decide +kernel
theorem dX12_readsCase_286 : decode cX12_readsCase 286 = .ok (.getfield 73, 3) := by decide +kernel
theorem dX12_readsCase_289 : decode cX12_readsCase 289 = .ok (.iload_n 1, 1) := by decide +kernel
theorem dX12_readsCase_290 : decode cX12_readsCase 290 = .ok (.aload_n 0, 1) := by decide +kernel
theorem dX12_readsCase_291 : decode cX12_readsCase 291 = .ok (.iconst 4, 1) := by decide +kernel
theorem dX12_readsCase_292 : decode cX12_readsCase 292 = .ok (.invokevirtual 292, 3) := by decide +kernel
theorem dX12_readsCase_295 : decode cX12_readsCase 295 = .ok (.iastore, 1) := by decide +kernel
theorem dX12_readsCase_296 : decode cX12_readsCase 296 = .ok (.return_, 1) := by decide +kernel
abbrev M_X12_readsCase : MI := (RX12, cX12_readsCase, 5, none, ({ frames := 2, cells := 0, slots := 0, locals := 45 } : Room), 0, 0, false)
def f_X12_readsCase_b281 (N : Nat) (h : AH) (x0 : Nat) (x1 : Int32) (s2 : Int32) (s3 : Int32) (s4 : Nat) : Option AH := (xpi h s4 13 69 (s3 + s2)).bind fun h54 => (xgr h54 x0 13 23).bind fun v55 => (f_X12_number h54 N x0 4).bind fun q56 => (xis q56.2 v55 x1 q56.1).bind fun h57 => some h57
def f_X12_readsCase_b261 (N : Nat) (h : AH) (x0 : Nat) (x1 : Int32) (s2 : Int32) (s3 : Nat) : Option AH := (xpz h s3 13 70 s2).bind fun h50 => (xgi h50 x0 13 69).bind fun v51 => (xgi h50 x0 13 70).bind fun v52 => (if v52 = 0 then f_X12_readsCase_b281 N h50 x0 x1 1 v51 x0 else f_X12_readsCase_b281 N h50 x0 x1 0 v51 x0)
def f_X12_readsCase_b256 (N : Nat) (h : AH) (x0 : Nat) (x1 : Int32) (s2 : Nat) : Option AH := f_X12_readsCase_b261 N h x0 x1 1 s2
def f_X12_readsCase_b234 (N : Nat) (h : AH) (x0 : Nat) (x1 : Int32) (s2 : Int32) (s3 : Int32) (s4 : Nat) : Option AH := (xbs h s4 s3 s2).bind fun h44 => (xgi h44 x0 13 70).bind fun v45 => (if v45 = 0 then (xgi h44 x0 13 69).bind fun v47 => (f_X12_byteAt h44 x0 v47).bind fun v48 => (if v48 = 32 then f_X12_readsCase_b261 N h44 x0 x1 0 x0 else f_X12_readsCase_b256 N h44 x0 x1 x0) else f_X12_readsCase_b256 N h44 x0 x1 x0)
def f_X12_readsCase_b213 (N : Nat) (h : AH) (x0 : Nat) (x1 : Int32) (x4 : Int32) (s3 : Int32) (s4 : Int32) (s5 : Nat) : Option AH := (xpi h s5 13 69 (s4 + s3)).bind fun h41 => (xgr h41 x0 13 24).bind fun v42 => (if x4 = 60 then f_X12_readsCase_b234 N h41 x0 x1 1 x1 v42 else f_X12_readsCase_b234 N h41 x0 x1 0 x1 v42)
def f_X12_readsCase_b193 (N : Nat) (h : AH) (x0 : Nat) (x1 : Int32) (x4 : Int32) (s3 : Int32) (s4 : Nat) : Option AH := (xpz h s4 13 70 s3).bind fun h37 => (xgi h37 x0 13 69).bind fun v38 => (xgi h37 x0 13 70).bind fun v39 => (if v39 = 0 then f_X12_readsCase_b213 N h37 x0 x1 x4 1 v38 x0 else f_X12_readsCase_b213 N h37 x0 x1 x4 0 v38 x0)
def f_X12_readsCase_b188 (N : Nat) (h : AH) (x0 : Nat) (x1 : Int32) (x4 : Int32) (s3 : Nat) : Option AH := f_X12_readsCase_b193 N h x0 x1 x4 1 s3
def f_X12_readsCase_b192 (N : Nat) (h : AH) (x0 : Nat) (x1 : Int32) (x4 : Int32) (s3 : Nat) : Option AH := f_X12_readsCase_b193 N h x0 x1 x4 0 s3
def f_X12_readsCase_b152 (N : Nat) (h : AH) (x0 : Nat) (x1 : Int32) (s2 : Int32) (s3 : Int32) (s4 : Nat) : Option AH := (xpi h s4 13 69 (s3 + s2)).bind fun h30 => (xgi h30 x0 13 69).bind fun v31 => (f_X12_byteAt h30 x0 v31).bind fun v32 => (xgi h30 x0 13 70).bind fun v33 => (if v33 = 0 then (if v32 = 60 then f_X12_readsCase_b192 N h30 x0 x1 v32 x0 else (if v32 = 62 then f_X12_readsCase_b192 N h30 x0 x1 v32 x0 else f_X12_readsCase_b188 N h30 x0 x1 v32 x0)) else f_X12_readsCase_b188 N h30 x0 x1 v32 x0)
def f_X12_readsCase_b132 (N : Nat) (h : AH) (x0 : Nat) (x1 : Int32) (s2 : Int32) (s3 : Nat) : Option AH := (xpz h s3 13 70 s2).bind fun h26 => (xgi h26 x0 13 69).bind fun v27 => (xgi h26 x0 13 70).bind fun v28 => (if v28 = 0 then f_X12_readsCase_b152 N h26 x0 x1 1 v27 x0 else f_X12_readsCase_b152 N h26 x0 x1 0 v27 x0)
def f_X12_readsCase_b127 (N : Nat) (h : AH) (x0 : Nat) (x1 : Int32) (s2 : Nat) : Option AH := f_X12_readsCase_b132 N h x0 x1 1 s2
def f_X12_readsCase_b106 (N : Nat) (h : AH) (x0 : Nat) (x1 : Int32) : Option AH := (xgi h x0 13 70).bind fun v21 => (if v21 = 0 then (xgi h x0 13 69).bind fun v23 => (f_X12_byteAt h x0 v23).bind fun v24 => (if v24 = 32 then f_X12_readsCase_b132 N h x0 x1 0 x0 else f_X12_readsCase_b127 N h x0 x1 x0) else f_X12_readsCase_b127 N h x0 x1 x0)
def f_X12_readsCase_b44 (N : Nat) (h : AH) (x0 : Nat) (x1 : Int32) (s2 : Int32) : Option AH := (f_X12_must h N x0 s2).bind fun q6 => (xgr q6 x0 13 20).bind fun v7 => (xis q6 v7 x1 s2).bind fun h8 => (xgr h8 x0 13 21).bind fun v9 => (f_X12_number h8 N x0 2).bind fun q10 => (xis q10.2 v9 x1 q10.1).bind fun h11 => (if s2 = 11 then (xgr h11 x0 13 22).bind fun v13 => (xgr h11 x0 13 21).bind fun v14 => (xia h11 v14 x1).bind fun v15 => (xis h11 v13 x1 v15).bind fun h16 => f_X12_readsCase_b106 N h16 x0 x1 else (f_X12_must h11 N x0 6).bind fun q17 => (xgr q17 x0 13 22).bind fun v18 => (f_X12_number q17 N x0 2).bind fun q19 => (xis q19.2 v18 x1 q19.1).bind fun h20 => f_X12_readsCase_b106 N h20 x0 x1)
def f_X12_readsCase (h0 : AH) (N : Nat) (p0 : Nat) (p1 : Int32) : Option AH := if kd h0 p0 = 13 + 1 then (xgi h0 p0 13 69).bind fun v1 => (f_X12_byteAt h0 p0 v1).bind fun v2 => (if v2 = 115 then f_X12_readsCase_b44 N h0 p0 p1 8 else (if v2 = 100 then f_X12_readsCase_b44 N h0 p0 p1 9 else (if v2 = 103 then f_X12_readsCase_b44 N h0 p0 p1 10 else f_X12_readsCase_b44 N h0 p0 p1 11))) else none
theorem g_X12_readsCase {h0 : AH} {N : Nat} {p0 : Nat} {p1 : Int32} {x : AH} (e : f_X12_readsCase h0 N p0 p1 = some x) : kd h0 p0 = 13 + 1 := by
  unfold f_X12_readsCase at e
  by_cases hk : kd h0 p0 = 13 + 1
  · exact hk
  · rw [if_neg hk] at e
    cases e
theorem km_X12_readsCase : KM yX12_readsCase M_X12_readsCase 1 := ⟨in_tb 1564 (by decide +kernel) rfl, in_tb 9 (by decide +kernel) rfl, by decide +kernel, rfl, rfl⟩
theorem hm_X12_readsCase : M_X12_readsCase.2.2.2.2.2.1 = 0 ∧ M_X12_readsCase.2.2.2.2.2.2.1 = 0 := ⟨rfl, rfl⟩
section
variable {l : Launch} {g : GG}
set_option maxRecDepth 100000 in
set_option maxHeartbeats 4000000 in
theorem t_X12_readsCase_b281 (h0 : AH) (N : Nat) (h : AH) (x0 : Nat) (x1 : Int32) (s2 : Int32) (s3 : Int32) (s4 : Nat) : AO l g M_X12_readsCase false h0 281 [(0, .ref x0), (1, .int x1)] [.int s2, .int s3, .ref s4] h 0 0 rSv (f_X12_readsCase_b281 N  h x0 x1 s2 s3 s4) := by
  unfold f_X12_readsCase_b281
  refine a_iadd dX12_readsCase_281 ?_
  refine a_puti kc13 69 dX12_readsCase_282 (by decide) rfl w_fieldLink_RainCoverModel_283 rfl rfl (fun h54 => ?_)
  refine a_aload_n dX12_readsCase_285 rfl 0 rfl ?_
  refine a_getr kc13 23 dX12_readsCase_286 (by decide) rfl w_fieldLink_RainCoverModel_73 (fun v55 => ?_)
  refine a_iload_n dX12_readsCase_289 rfl 1 rfl ?_
  refine a_aload_n dX12_readsCase_290 rfl 0 rfl ?_
  refine a_iconst (v := 4) dX12_readsCase_291 (by decide) ?_
  refine a_cV_Si (r := x0) (ci := 13) (as := [.int 4]) (st := [.int x1, .ref v55]) dX12_readsCase_292 (c_X12_number l g h54 N x0 4) rfl km_X12_number (hm_X12_number) rfl (by decide) rfl (fun _ ee => g_X12_number ee) w_methodLink_RainCoverModel_292 w_instanceMethod_RainCoverModel_number__I_I w_selects_RainCoverModel_RainCoverModel_number__I_I_RainCoverModel_number__I_I ⟨⟨by decide, by decide⟩, ⟨by decide, by decide⟩⟩ (Nat.le_of_ble_eq_true rfl) (fun q56 => ?_)
  refine a_iast dX12_readsCase_295 (fun h57 => ?_)
  exact a_vret dX12_readsCase_296 rfl rfl (by decide) (by decide)
set_option maxRecDepth 100000 in
set_option maxHeartbeats 4000000 in
theorem t_X12_readsCase_b261 (h0 : AH) (N : Nat) (h : AH) (x0 : Nat) (x1 : Int32) (s2 : Int32) (s3 : Nat) : AO l g M_X12_readsCase false h0 261 [(0, .ref x0), (1, .int x1)] [.int s2, .ref s3] h 0 0 rSv (f_X12_readsCase_b261 N  h x0 x1 s2 s3) := by
  unfold f_X12_readsCase_b261
  refine a_putz kc13 70 dX12_readsCase_261 (by decide) rfl w_fieldLink_RainCoverModel_279 rfl rfl (fun h50 => ?_)
  refine a_aload_n dX12_readsCase_264 rfl 0 rfl ?_
  refine a_dup dX12_readsCase_265 rfl ?_
  refine a_geti kc13 69 dX12_readsCase_266 (by decide) rfl w_fieldLink_RainCoverModel_283 (fun v51 => ?_)
  refine a_aload_n dX12_readsCase_269 rfl 0 rfl ?_
  refine a_geti kc13 70 dX12_readsCase_270 (by decide) rfl w_fieldLink_RainCoverModel_279 (fun v52 => ?_)
  refine a_if_eq 280 dX12_readsCase_273 (by decide) (fun c53 => ?_) (fun c53 => ?_)
  · refine a_iconst (v := 1) dX12_readsCase_280 (by decide) ?_
    exact t_X12_readsCase_b281 h0 N h50 x0 x1 1 v51 x0
  · refine a_iconst (v := 0) dX12_readsCase_276 (by decide) ?_
    refine a_goto 281 dX12_readsCase_277 (by decide) ?_
    exact t_X12_readsCase_b281 h0 N h50 x0 x1 0 v51 x0
set_option maxRecDepth 100000 in
set_option maxHeartbeats 4000000 in
theorem t_X12_readsCase_b256 (h0 : AH) (N : Nat) (h : AH) (x0 : Nat) (x1 : Int32) (s2 : Nat) : AO l g M_X12_readsCase false h0 256 [(0, .ref x0), (1, .int x1)] [.ref s2] h 0 0 rSv (f_X12_readsCase_b256 N  h x0 x1 s2) := by
  unfold f_X12_readsCase_b256
  refine a_iconst (v := 1) dX12_readsCase_256 (by decide) ?_
  refine a_goto 261 dX12_readsCase_257 (by decide) ?_
  exact t_X12_readsCase_b261 h0 N h x0 x1 1 s2
set_option maxRecDepth 100000 in
set_option maxHeartbeats 4000000 in
theorem t_X12_readsCase_b234 (h0 : AH) (N : Nat) (h : AH) (x0 : Nat) (x1 : Int32) (s2 : Int32) (s3 : Int32) (s4 : Nat) : AO l g M_X12_readsCase false h0 234 [(0, .ref x0), (1, .int x1)] [.int s2, .int s3, .ref s4] h 0 0 rSv (f_X12_readsCase_b234 N  h x0 x1 s2 s3 s4) := by
  unfold f_X12_readsCase_b234
  refine a_bast dX12_readsCase_234 (fun h44 => ?_)
  refine a_aload_n dX12_readsCase_235 rfl 0 rfl ?_
  refine a_aload_n dX12_readsCase_236 rfl 0 rfl ?_
  refine a_geti kc13 70 dX12_readsCase_237 (by decide) rfl w_fieldLink_RainCoverModel_279 (fun v45 => ?_)
  refine a_if_ne 256 dX12_readsCase_240 (by decide) (fun c46 => ?_) (fun c46 => ?_)
  · refine a_aload_n dX12_readsCase_243 rfl 0 rfl ?_
    refine a_aload_n dX12_readsCase_244 rfl 0 rfl ?_
    refine a_geti kc13 69 dX12_readsCase_245 (by decide) rfl w_fieldLink_RainCoverModel_283 (fun v47 => ?_)
    refine a_cV_Pi (r := x0) (ci := 13) (as := [.int v47]) (st := [.ref x0]) dX12_readsCase_248 (c_X12_byteAt l g h44 x0 v47) rfl km_X12_byteAt (hm_X12_byteAt) rfl (by decide) rfl (fun _ ee => g_X12_byteAt ee) w_methodLink_RainCoverModel_286 w_instanceMethod_RainCoverModel_byteAt__I_I w_selects_RainCoverModel_RainCoverModel_byteAt__I_I_RainCoverModel_byteAt__I_I ⟨⟨by decide, by decide⟩, ⟨by decide, by decide⟩⟩ (Nat.le_of_ble_eq_true rfl) (fun v48 => ?_)
    refine a_bipush (v := 32) dX12_readsCase_251 (by decide) ?_
    refine a_icmp_eq 260 dX12_readsCase_253 (by decide) (fun c49 => ?_) (fun c49 => ?_)
    · refine a_iconst (v := 0) dX12_readsCase_260 (by decide) ?_
      exact t_X12_readsCase_b261 h0 N h44 x0 x1 0 x0
    · exact t_X12_readsCase_b256 h0 N h44 x0 x1 x0
  · exact t_X12_readsCase_b256 h0 N h44 x0 x1 x0
set_option maxRecDepth 100000 in
set_option maxHeartbeats 4000000 in
theorem t_X12_readsCase_b213 (h0 : AH) (N : Nat) (h : AH) (x0 : Nat) (x1 : Int32) (x4 : Int32) (s3 : Int32) (s4 : Int32) (s5 : Nat) : AO l g M_X12_readsCase false h0 213 [(0, .ref x0), (1, .int x1), (4, .int x4)] [.int s3, .int s4, .ref s5] h 0 0 rSv (f_X12_readsCase_b213 N  h x0 x1 x4 s3 s4 s5) := by
  unfold f_X12_readsCase_b213
  refine a_iadd dX12_readsCase_213 ?_
  refine a_puti kc13 69 dX12_readsCase_214 (by decide) rfl w_fieldLink_RainCoverModel_283 rfl rfl (fun h41 => ?_)
  refine a_aload_n dX12_readsCase_217 rfl 0 rfl ?_
  refine a_getr kc13 24 dX12_readsCase_218 (by decide) rfl w_fieldLink_RainCoverModel_76 (fun v42 => ?_)
  refine a_iload_n dX12_readsCase_221 rfl 1 rfl ?_
  refine a_iload dX12_readsCase_222 2 rfl ?_
  refine a_bipush (v := 60) dX12_readsCase_224 (by decide) ?_
  refine a_icmp_ne 233 dX12_readsCase_226 (by decide) (fun c43 => ?_) (fun c43 => ?_)
  · refine a_iconst (v := 1) dX12_readsCase_229 (by decide) ?_
    refine a_goto 234 dX12_readsCase_230 (by decide) ?_
    refine a_pick (lc2 := [(0, .ref x0), (1, .int x1)]) [0, 1] rfl ?_
    exact t_X12_readsCase_b234 h0 N h41 x0 x1 1 x1 v42
  · refine a_iconst (v := 0) dX12_readsCase_233 (by decide) ?_
    refine a_pick (lc2 := [(0, .ref x0), (1, .int x1)]) [0, 1] rfl ?_
    exact t_X12_readsCase_b234 h0 N h41 x0 x1 0 x1 v42
set_option maxRecDepth 100000 in
set_option maxHeartbeats 4000000 in
theorem t_X12_readsCase_b193 (h0 : AH) (N : Nat) (h : AH) (x0 : Nat) (x1 : Int32) (x4 : Int32) (s3 : Int32) (s4 : Nat) : AO l g M_X12_readsCase false h0 193 [(0, .ref x0), (1, .int x1), (4, .int x4)] [.int s3, .ref s4] h 0 0 rSv (f_X12_readsCase_b193 N  h x0 x1 x4 s3 s4) := by
  unfold f_X12_readsCase_b193
  refine a_putz kc13 70 dX12_readsCase_193 (by decide) rfl w_fieldLink_RainCoverModel_279 rfl rfl (fun h37 => ?_)
  refine a_aload_n dX12_readsCase_196 rfl 0 rfl ?_
  refine a_dup dX12_readsCase_197 rfl ?_
  refine a_geti kc13 69 dX12_readsCase_198 (by decide) rfl w_fieldLink_RainCoverModel_283 (fun v38 => ?_)
  refine a_aload_n dX12_readsCase_201 rfl 0 rfl ?_
  refine a_geti kc13 70 dX12_readsCase_202 (by decide) rfl w_fieldLink_RainCoverModel_279 (fun v39 => ?_)
  refine a_if_eq 212 dX12_readsCase_205 (by decide) (fun c40 => ?_) (fun c40 => ?_)
  · refine a_iconst (v := 1) dX12_readsCase_212 (by decide) ?_
    exact t_X12_readsCase_b213 h0 N h37 x0 x1 x4 1 v38 x0
  · refine a_iconst (v := 0) dX12_readsCase_208 (by decide) ?_
    refine a_goto 213 dX12_readsCase_209 (by decide) ?_
    exact t_X12_readsCase_b213 h0 N h37 x0 x1 x4 0 v38 x0
set_option maxRecDepth 100000 in
set_option maxHeartbeats 4000000 in
theorem t_X12_readsCase_b188 (h0 : AH) (N : Nat) (h : AH) (x0 : Nat) (x1 : Int32) (x4 : Int32) (s3 : Nat) : AO l g M_X12_readsCase false h0 188 [(0, .ref x0), (1, .int x1), (4, .int x4)] [.ref s3] h 0 0 rSv (f_X12_readsCase_b188 N  h x0 x1 x4 s3) := by
  unfold f_X12_readsCase_b188
  refine a_iconst (v := 1) dX12_readsCase_188 (by decide) ?_
  refine a_goto 193 dX12_readsCase_189 (by decide) ?_
  exact t_X12_readsCase_b193 h0 N h x0 x1 x4 1 s3
set_option maxRecDepth 100000 in
set_option maxHeartbeats 4000000 in
theorem t_X12_readsCase_b192 (h0 : AH) (N : Nat) (h : AH) (x0 : Nat) (x1 : Int32) (x4 : Int32) (s3 : Nat) : AO l g M_X12_readsCase false h0 192 [(0, .ref x0), (1, .int x1), (4, .int x4)] [.ref s3] h 0 0 rSv (f_X12_readsCase_b192 N  h x0 x1 x4 s3) := by
  unfold f_X12_readsCase_b192
  refine a_iconst (v := 0) dX12_readsCase_192 (by decide) ?_
  exact t_X12_readsCase_b193 h0 N h x0 x1 x4 0 s3
set_option maxRecDepth 100000 in
set_option maxHeartbeats 4000000 in
theorem t_X12_readsCase_b152 (h0 : AH) (N : Nat) (h : AH) (x0 : Nat) (x1 : Int32) (s2 : Int32) (s3 : Int32) (s4 : Nat) : AO l g M_X12_readsCase false h0 152 [(0, .ref x0), (1, .int x1)] [.int s2, .int s3, .ref s4] h 0 0 rSv (f_X12_readsCase_b152 N  h x0 x1 s2 s3 s4) := by
  unfold f_X12_readsCase_b152
  refine a_iadd dX12_readsCase_152 ?_
  refine a_puti kc13 69 dX12_readsCase_153 (by decide) rfl w_fieldLink_RainCoverModel_283 rfl rfl (fun h30 => ?_)
  refine a_aload_n dX12_readsCase_156 rfl 0 rfl ?_
  refine a_aload_n dX12_readsCase_157 rfl 0 rfl ?_
  refine a_geti kc13 69 dX12_readsCase_158 (by decide) rfl w_fieldLink_RainCoverModel_283 (fun v31 => ?_)
  refine a_cV_Pi (r := x0) (ci := 13) (as := [.int v31]) (st := []) dX12_readsCase_161 (c_X12_byteAt l g h30 x0 v31) rfl km_X12_byteAt (hm_X12_byteAt) rfl (by decide) rfl (fun _ ee => g_X12_byteAt ee) w_methodLink_RainCoverModel_286 w_instanceMethod_RainCoverModel_byteAt__I_I w_selects_RainCoverModel_RainCoverModel_byteAt__I_I_RainCoverModel_byteAt__I_I ⟨⟨by decide, by decide⟩, ⟨by decide, by decide⟩⟩ (Nat.le_of_ble_eq_true rfl) (fun v32 => ?_)
  refine a_istore (lc2 := [(4, .int v32), (0, .ref x0), (1, .int x1)]) dX12_readsCase_164 (by decide) rfl ?_
  refine a_aload_n dX12_readsCase_166 rfl 1 rfl ?_
  refine a_aload_n dX12_readsCase_167 rfl 1 rfl ?_
  refine a_geti kc13 70 dX12_readsCase_168 (by decide) rfl w_fieldLink_RainCoverModel_279 (fun v33 => ?_)
  refine a_if_ne 188 dX12_readsCase_171 (by decide) (fun c34 => ?_) (fun c34 => ?_)
  · refine a_iload dX12_readsCase_174 0 rfl ?_
    refine a_bipush (v := 60) dX12_readsCase_176 (by decide) ?_
    refine a_icmp_eq 192 dX12_readsCase_178 (by decide) (fun c35 => ?_) (fun c35 => ?_)
    · refine a_pick (lc2 := [(0, .ref x0), (1, .int x1), (4, .int v32)]) [1, 2, 0] rfl ?_
      exact t_X12_readsCase_b192 h0 N h30 x0 x1 v32 x0
    · refine a_iload dX12_readsCase_181 0 rfl ?_
      refine a_bipush (v := 62) dX12_readsCase_183 (by decide) ?_
      refine a_icmp_eq 192 dX12_readsCase_185 (by decide) (fun c36 => ?_) (fun c36 => ?_)
      · refine a_pick (lc2 := [(0, .ref x0), (1, .int x1), (4, .int v32)]) [1, 2, 0] rfl ?_
        exact t_X12_readsCase_b192 h0 N h30 x0 x1 v32 x0
      · refine a_pick (lc2 := [(0, .ref x0), (1, .int x1), (4, .int v32)]) [1, 2, 0] rfl ?_
        exact t_X12_readsCase_b188 h0 N h30 x0 x1 v32 x0
  · refine a_pick (lc2 := [(0, .ref x0), (1, .int x1), (4, .int v32)]) [1, 2, 0] rfl ?_
    exact t_X12_readsCase_b188 h0 N h30 x0 x1 v32 x0
set_option maxRecDepth 100000 in
set_option maxHeartbeats 4000000 in
theorem t_X12_readsCase_b132 (h0 : AH) (N : Nat) (h : AH) (x0 : Nat) (x1 : Int32) (s2 : Int32) (s3 : Nat) : AO l g M_X12_readsCase false h0 132 [(0, .ref x0), (1, .int x1)] [.int s2, .ref s3] h 0 0 rSv (f_X12_readsCase_b132 N  h x0 x1 s2 s3) := by
  unfold f_X12_readsCase_b132
  refine a_putz kc13 70 dX12_readsCase_132 (by decide) rfl w_fieldLink_RainCoverModel_279 rfl rfl (fun h26 => ?_)
  refine a_aload_n dX12_readsCase_135 rfl 0 rfl ?_
  refine a_dup dX12_readsCase_136 rfl ?_
  refine a_geti kc13 69 dX12_readsCase_137 (by decide) rfl w_fieldLink_RainCoverModel_283 (fun v27 => ?_)
  refine a_aload_n dX12_readsCase_140 rfl 0 rfl ?_
  refine a_geti kc13 70 dX12_readsCase_141 (by decide) rfl w_fieldLink_RainCoverModel_279 (fun v28 => ?_)
  refine a_if_eq 151 dX12_readsCase_144 (by decide) (fun c29 => ?_) (fun c29 => ?_)
  · refine a_iconst (v := 1) dX12_readsCase_151 (by decide) ?_
    exact t_X12_readsCase_b152 h0 N h26 x0 x1 1 v27 x0
  · refine a_iconst (v := 0) dX12_readsCase_147 (by decide) ?_
    refine a_goto 152 dX12_readsCase_148 (by decide) ?_
    exact t_X12_readsCase_b152 h0 N h26 x0 x1 0 v27 x0
set_option maxRecDepth 100000 in
set_option maxHeartbeats 4000000 in
theorem t_X12_readsCase_b127 (h0 : AH) (N : Nat) (h : AH) (x0 : Nat) (x1 : Int32) (s2 : Nat) : AO l g M_X12_readsCase false h0 127 [(0, .ref x0), (1, .int x1)] [.ref s2] h 0 0 rSv (f_X12_readsCase_b127 N  h x0 x1 s2) := by
  unfold f_X12_readsCase_b127
  refine a_iconst (v := 1) dX12_readsCase_127 (by decide) ?_
  refine a_goto 132 dX12_readsCase_128 (by decide) ?_
  exact t_X12_readsCase_b132 h0 N h x0 x1 1 s2
set_option maxRecDepth 100000 in
set_option maxHeartbeats 4000000 in
theorem t_X12_readsCase_b106 (h0 : AH) (N : Nat) (h : AH) (x0 : Nat) (x1 : Int32) : AO l g M_X12_readsCase false h0 106 [(0, .ref x0), (1, .int x1)] [] h 0 0 rSv (f_X12_readsCase_b106 N  h x0 x1) := by
  unfold f_X12_readsCase_b106
  refine a_aload_n dX12_readsCase_106 rfl 0 rfl ?_
  refine a_aload_n dX12_readsCase_107 rfl 0 rfl ?_
  refine a_geti kc13 70 dX12_readsCase_108 (by decide) rfl w_fieldLink_RainCoverModel_279 (fun v21 => ?_)
  refine a_if_ne 127 dX12_readsCase_111 (by decide) (fun c22 => ?_) (fun c22 => ?_)
  · refine a_aload_n dX12_readsCase_114 rfl 0 rfl ?_
    refine a_aload_n dX12_readsCase_115 rfl 0 rfl ?_
    refine a_geti kc13 69 dX12_readsCase_116 (by decide) rfl w_fieldLink_RainCoverModel_283 (fun v23 => ?_)
    refine a_cV_Pi (r := x0) (ci := 13) (as := [.int v23]) (st := [.ref x0]) dX12_readsCase_119 (c_X12_byteAt l g h x0 v23) rfl km_X12_byteAt (hm_X12_byteAt) rfl (by decide) rfl (fun _ ee => g_X12_byteAt ee) w_methodLink_RainCoverModel_286 w_instanceMethod_RainCoverModel_byteAt__I_I w_selects_RainCoverModel_RainCoverModel_byteAt__I_I_RainCoverModel_byteAt__I_I ⟨⟨by decide, by decide⟩, ⟨by decide, by decide⟩⟩ (Nat.le_of_ble_eq_true rfl) (fun v24 => ?_)
    refine a_bipush (v := 32) dX12_readsCase_122 (by decide) ?_
    refine a_icmp_eq 131 dX12_readsCase_124 (by decide) (fun c25 => ?_) (fun c25 => ?_)
    · refine a_iconst (v := 0) dX12_readsCase_131 (by decide) ?_
      exact t_X12_readsCase_b132 h0 N h x0 x1 0 x0
    · exact t_X12_readsCase_b127 h0 N h x0 x1 x0
  · exact t_X12_readsCase_b127 h0 N h x0 x1 x0
set_option maxRecDepth 100000 in
set_option maxHeartbeats 4000000 in
theorem t_X12_readsCase_b44 (h0 : AH) (N : Nat) (h : AH) (x0 : Nat) (x1 : Int32) (s2 : Int32) : AO l g M_X12_readsCase false h0 44 [(0, .ref x0), (1, .int x1)] [.int s2] h 0 0 rSv (f_X12_readsCase_b44 N  h x0 x1 s2) := by
  unfold f_X12_readsCase_b44
  refine a_istore_n (lc2 := [(3, .int s2), (0, .ref x0), (1, .int x1)]) dX12_readsCase_44 rfl (by decide) rfl ?_
  refine a_aload_n dX12_readsCase_45 rfl 1 rfl ?_
  refine a_iload_n dX12_readsCase_46 rfl 0 rfl ?_
  refine a_cV_Sv (r := x0) (ci := 13) (as := [.int s2]) (st := []) dX12_readsCase_47 (c_X12_must l g h N x0 s2) rfl km_X12_must (hm_X12_must) rfl (by decide) rfl (fun _ ee => g_X12_must ee) w_methodLink_RainCoverModel_289 w_instanceMethod_RainCoverModel_must__I_V w_selects_RainCoverModel_RainCoverModel_must__I_V_RainCoverModel_must__I_V ⟨⟨by decide, by decide⟩, ⟨by decide, by decide⟩⟩ (Nat.le_of_ble_eq_true rfl) (fun q6 => ?_)
  refine a_aload_n dX12_readsCase_50 rfl 1 rfl ?_
  refine a_getr kc13 20 dX12_readsCase_51 (by decide) rfl w_fieldLink_RainCoverModel_64 (fun v7 => ?_)
  refine a_iload_n dX12_readsCase_54 rfl 2 rfl ?_
  refine a_iload_n dX12_readsCase_55 rfl 0 rfl ?_
  refine a_iast dX12_readsCase_56 (fun h8 => ?_)
  refine a_aload_n dX12_readsCase_57 rfl 1 rfl ?_
  refine a_getr kc13 21 dX12_readsCase_58 (by decide) rfl w_fieldLink_RainCoverModel_67 (fun v9 => ?_)
  refine a_iload_n dX12_readsCase_61 rfl 2 rfl ?_
  refine a_aload_n dX12_readsCase_62 rfl 1 rfl ?_
  refine a_iconst (v := 2) dX12_readsCase_63 (by decide) ?_
  refine a_cV_Si (r := x0) (ci := 13) (as := [.int 2]) (st := [.int x1, .ref v9]) dX12_readsCase_64 (c_X12_number l g h8 N x0 2) rfl km_X12_number (hm_X12_number) rfl (by decide) rfl (fun _ ee => g_X12_number ee) w_methodLink_RainCoverModel_292 w_instanceMethod_RainCoverModel_number__I_I w_selects_RainCoverModel_RainCoverModel_number__I_I_RainCoverModel_number__I_I ⟨⟨by decide, by decide⟩, ⟨by decide, by decide⟩⟩ (Nat.le_of_ble_eq_true rfl) (fun q10 => ?_)
  refine a_iast dX12_readsCase_67 (fun h11 => ?_)
  refine a_iload_n dX12_readsCase_68 rfl 0 rfl ?_
  refine a_bipush (v := 11) dX12_readsCase_69 (by decide) ?_
  refine a_icmp_eq 94 dX12_readsCase_71 (by decide) (fun c12 => ?_) (fun c12 => ?_)
  · refine a_aload_n dX12_readsCase_94 rfl 1 rfl ?_
    refine a_getr kc13 22 dX12_readsCase_95 (by decide) rfl w_fieldLink_RainCoverModel_70 (fun v13 => ?_)
    refine a_iload_n dX12_readsCase_98 rfl 2 rfl ?_
    refine a_aload_n dX12_readsCase_99 rfl 1 rfl ?_
    refine a_getr kc13 21 dX12_readsCase_100 (by decide) rfl w_fieldLink_RainCoverModel_67 (fun v14 => ?_)
    refine a_iload_n dX12_readsCase_103 rfl 2 rfl ?_
    refine a_iald dX12_readsCase_104 (fun v15 => ?_)
    refine a_iast dX12_readsCase_105 (fun h16 => ?_)
    refine a_pick (lc2 := [(0, .ref x0), (1, .int x1)]) [1, 2] rfl ?_
    exact t_X12_readsCase_b106 h0 N h16 x0 x1
  · refine a_aload_n dX12_readsCase_74 rfl 1 rfl ?_
    refine a_bipush (v := 6) dX12_readsCase_75 (by decide) ?_
    refine a_cV_Sv (r := x0) (ci := 13) (as := [.int 6]) (st := []) dX12_readsCase_77 (c_X12_must l g h11 N x0 6) rfl km_X12_must (hm_X12_must) rfl (by decide) rfl (fun _ ee => g_X12_must ee) w_methodLink_RainCoverModel_289 w_instanceMethod_RainCoverModel_must__I_V w_selects_RainCoverModel_RainCoverModel_must__I_V_RainCoverModel_must__I_V ⟨⟨by decide, by decide⟩, ⟨by decide, by decide⟩⟩ (Nat.le_of_ble_eq_true rfl) (fun q17 => ?_)
    refine a_aload_n dX12_readsCase_80 rfl 1 rfl ?_
    refine a_getr kc13 22 dX12_readsCase_81 (by decide) rfl w_fieldLink_RainCoverModel_70 (fun v18 => ?_)
    refine a_iload_n dX12_readsCase_84 rfl 2 rfl ?_
    refine a_aload_n dX12_readsCase_85 rfl 1 rfl ?_
    refine a_iconst (v := 2) dX12_readsCase_86 (by decide) ?_
    refine a_cV_Si (r := x0) (ci := 13) (as := [.int 2]) (st := [.int x1, .ref v18]) dX12_readsCase_87 (c_X12_number l g q17 N x0 2) rfl km_X12_number (hm_X12_number) rfl (by decide) rfl (fun _ ee => g_X12_number ee) w_methodLink_RainCoverModel_292 w_instanceMethod_RainCoverModel_number__I_I w_selects_RainCoverModel_RainCoverModel_number__I_I_RainCoverModel_number__I_I ⟨⟨by decide, by decide⟩, ⟨by decide, by decide⟩⟩ (Nat.le_of_ble_eq_true rfl) (fun q19 => ?_)
    refine a_iast dX12_readsCase_90 (fun h20 => ?_)
    refine a_goto 106 dX12_readsCase_91 (by decide) ?_
    refine a_pick (lc2 := [(0, .ref x0), (1, .int x1)]) [1, 2] rfl ?_
    exact t_X12_readsCase_b106 h0 N h20 x0 x1
end
set_option maxRecDepth 100000 in
set_option maxHeartbeats 4000000 in
theorem c_X12_readsCase (l : Launch) (g : GG) (h0 : AH) (N : Nat) (p0 : Nat) (p1 : Int32) : CN l g yX12_readsCase M_X12_readsCase false [.ref p0, .int p1] h0 rSv (f_X12_readsCase h0 N p0 p1) := by
  refine CN.of (by decide) rfl (fun hh => by first | rfl | cases hh) (Nat.le_of_ble_eq_true rfl) ?_
  unfold f_X12_readsCase
  refine a_gd (fun hkd => ?_)
  refine a_aload_n dX12_readsCase_0 rfl 0 rfl ?_
  refine a_aload_n dX12_readsCase_1 rfl 0 rfl ?_
  refine a_geti kc13 69 dX12_readsCase_2 (by decide) rfl w_fieldLink_RainCoverModel_283 (fun v1 => ?_)
  refine a_cV_Pi (r := p0) (ci := 13) (as := [.int v1]) (st := []) dX12_readsCase_5 (c_X12_byteAt l g h0 p0 v1) rfl km_X12_byteAt (hm_X12_byteAt) rfl (by decide) rfl (fun _ ee => g_X12_byteAt ee) w_methodLink_RainCoverModel_286 w_instanceMethod_RainCoverModel_byteAt__I_I w_selects_RainCoverModel_RainCoverModel_byteAt__I_I_RainCoverModel_byteAt__I_I ⟨⟨by decide, by decide⟩, ⟨by decide, by decide⟩⟩ (Nat.le_of_ble_eq_true rfl) (fun v2 => ?_)
  refine a_istore_n (lc2 := [(2, .int v2), (0, .ref p0), (1, .int p1)]) dX12_readsCase_8 rfl (by decide) rfl ?_
  refine a_iload_n dX12_readsCase_9 rfl 0 rfl ?_
  refine a_bipush (v := 115) dX12_readsCase_10 (by decide) ?_
  refine a_icmp_ne 20 dX12_readsCase_12 (by decide) (fun c3 => ?_) (fun c3 => ?_)
  · refine a_bipush (v := 8) dX12_readsCase_15 (by decide) ?_
    refine a_goto 44 dX12_readsCase_17 (by decide) ?_
    refine a_pick (lc2 := [(0, .ref p0), (1, .int p1)]) [1, 2] rfl ?_
    exact t_X12_readsCase_b44 h0 N h0 p0 p1 8
  · refine a_iload_n dX12_readsCase_20 rfl 0 rfl ?_
    refine a_bipush (v := 100) dX12_readsCase_21 (by decide) ?_
    refine a_icmp_ne 31 dX12_readsCase_23 (by decide) (fun c4 => ?_) (fun c4 => ?_)
    · refine a_bipush (v := 9) dX12_readsCase_26 (by decide) ?_
      refine a_goto 44 dX12_readsCase_28 (by decide) ?_
      refine a_pick (lc2 := [(0, .ref p0), (1, .int p1)]) [1, 2] rfl ?_
      exact t_X12_readsCase_b44 h0 N h0 p0 p1 9
    · refine a_iload_n dX12_readsCase_31 rfl 0 rfl ?_
      refine a_bipush (v := 103) dX12_readsCase_32 (by decide) ?_
      refine a_icmp_ne 42 dX12_readsCase_34 (by decide) (fun c5 => ?_) (fun c5 => ?_)
      · refine a_bipush (v := 10) dX12_readsCase_37 (by decide) ?_
        refine a_goto 44 dX12_readsCase_39 (by decide) ?_
        refine a_pick (lc2 := [(0, .ref p0), (1, .int p1)]) [1, 2] rfl ?_
        exact t_X12_readsCase_b44 h0 N h0 p0 p1 10
      · refine a_bipush (v := 11) dX12_readsCase_42 (by decide) ?_
        refine a_pick (lc2 := [(0, .ref p0), (1, .int p1)]) [1, 2] rfl ?_
        exact t_X12_readsCase_b44 h0 N h0 p0 p1 11
theorem dX12_readsPay_0 : decode cX12_readsPay 0 = .ok (.aload_n 0, 1) := by decide +kernel
theorem dX12_readsPay_1 : decode cX12_readsPay 1 = .ok (.iconst 0, 1) := by decide +kernel
theorem dX12_readsPay_2 : decode cX12_readsPay 2 = .ok (.invokevirtual 289, 3) := by decide +kernel
theorem dX12_readsPay_5 : decode cX12_readsPay 5 = .ok (.aload_n 0, 1) := by decide +kernel
theorem dX12_readsPay_6 : decode cX12_readsPay 6 = .ok (.getfield 49, 3) := by decide +kernel
theorem dX12_readsPay_9 : decode cX12_readsPay 9 = .ok (.iload_n 1, 1) := by decide +kernel
theorem dX12_readsPay_10 : decode cX12_readsPay 10 = .ok (.aload_n 0, 1) := by decide +kernel
theorem dX12_readsPay_11 : decode cX12_readsPay 11 = .ok (.iconst 4, 1) := by decide +kernel
theorem dX12_readsPay_12 : decode cX12_readsPay 12 = .ok (.invokevirtual 292, 3) := by decide +kernel
theorem dX12_readsPay_15 : decode cX12_readsPay 15 = .ok (.iastore, 1) := by decide +kernel
theorem dX12_readsPay_16 : decode cX12_readsPay 16 = .ok (.aload_n 0, 1) := by decide +kernel
theorem dX12_readsPay_17 : decode cX12_readsPay 17 = .ok (.iconst 1, 1) := by decide +kernel
theorem dX12_readsPay_18 : decode cX12_readsPay 18 = .ok (.invokevirtual 289, 3) := by decide +kernel
theorem dX12_readsPay_21 : decode cX12_readsPay 21 = .ok (.iconst 0, 1) := by decide +kernel
theorem dX12_readsPay_22 : decode cX12_readsPay 22 = .ok (.istore_n 2, 1) := by decide +kernel
theorem dX12_readsPay_23 : decode cX12_readsPay 23 = .ok (.aload_n 0, 1) := by decide +kernel
theorem dX12_readsPay_24 : decode cX12_readsPay 24 = .ok (.getfield 279, 3) := by decide +kernel
theorem dX12_readsPay_27 : decode cX12_readsPay 27 = .ok (.ifCond .ne 7, 3) := by decide +kernel
theorem dX12_readsPay_30 : decode cX12_readsPay 30 = .ok (.iconst 1, 1) := by decide +kernel
theorem dX12_readsPay_31 : decode cX12_readsPay 31 = .ok (.goto 4, 3) := by decide +kernel
theorem dX12_readsPay_34 : decode cX12_readsPay 34 = .ok (.iconst 0, 1) := by decide +kernel
theorem dX12_readsPay_35 : decode cX12_readsPay 35 = .ok (.istore_n 3, 1) := by decide +kernel
theorem dX12_readsPay_36 : decode cX12_readsPay 36 = .ok (.iload_n 3, 1) := by decide +kernel
theorem dX12_readsPay_37 : decode cX12_readsPay 37 = .ok (.ifCond .eq 72, 3) := by decide +kernel
theorem dX12_readsPay_40 : decode cX12_readsPay 40 = .ok (.aload_n 0, 1) := by decide +kernel
theorem dX12_readsPay_41 : decode cX12_readsPay 41 = .ok (.iconst 4, 1) := by decide +kernel
theorem dX12_readsPay_42 : decode cX12_readsPay 42 = .ok (.iload_n 1, 1) := by decide +kernel
theorem dX12_readsPay_43 : decode cX12_readsPay 43 = .ok (.imul, 1) := by decide +kernel
theorem dX12_readsPay_44 : decode cX12_readsPay 44 = .ok (.iload_n 2, 1) := by decide +kernel
theorem dX12_readsPay_45 : decode cX12_readsPay 45 = .ok (.iadd, 1) := by decide +kernel
theorem dX12_readsPay_46 : decode cX12_readsPay 46 = .ok (.invokevirtual 295, 3) := by decide +kernel
theorem dX12_readsPay_49 : decode cX12_readsPay 49 = .ok (.iinc 2 1, 3) := by decide +kernel
theorem dX12_readsPay_52 : decode cX12_readsPay 52 = .ok (.aload_n 0, 1) := by decide +kernel
theorem dX12_readsPay_53 : decode cX12_readsPay 53 = .ok (.getfield 279, 3) := by decide +kernel
theorem dX12_readsPay_56 : decode cX12_readsPay 56 = .ok (.ifCond .ne 25, 3) := by decide +kernel
theorem dX12_readsPay_59 : decode cX12_readsPay 59 = .ok (.iload_n 2, 1) := by decide +kernel
theorem dX12_readsPay_60 : decode cX12_readsPay 60 = .ok (.iconst 4, 1) := by decide +kernel
theorem dX12_readsPay_61 : decode cX12_readsPay 61 = .ok (.if_icmp .ge 20, 3) := by decide +kernel
theorem dX12_readsPay_64 : decode cX12_readsPay 64 = .ok (.aload_n 0, 1) := by decide +kernel
theorem dX12_readsPay_65 : decode cX12_readsPay 65 = .ok (.aload_n 0, 1) := by decide +kernel
theorem dX12_readsPay_66 : decode cX12_readsPay 66 = .ok (.getfield 283, 3) := by decide +kernel
theorem dX12_readsPay_69 : decode cX12_readsPay 69 = .ok (.invokevirtual 286, 3) := by decide +kernel
theorem dX12_readsPay_72 : decode cX12_readsPay 72 = .ok (.bipush 32, 2) := by decide +kernel
theorem dX12_readsPay_74 : decode cX12_readsPay 74 = .ok (.if_icmp .ne 7, 3) := by decide +kernel
theorem dX12_readsPay_77 : decode cX12_readsPay 77 = .ok (.iconst 1, 1) := by decide +kernel
theorem dX12_readsPay_78 : decode cX12_readsPay 78 = .ok (.goto 4, 3) := by decide +kernel
theorem dX12_readsPay_81 : decode cX12_readsPay 81 = .ok (.iconst 0, 1) := by decide +kernel
theorem dX12_readsPay_82 : decode cX12_readsPay 82 = .ok (.istore_n 3, 1) := by decide +kernel
theorem dX12_readsPay_83 : decode cX12_readsPay 83 = .ok (.iload_n 3, 1) := by decide +kernel
theorem dX12_readsPay_84 : decode cX12_readsPay 84 = .ok (.ifCond .eq (-48), 3) := by decide +kernel
theorem dX12_readsPay_87 : decode cX12_readsPay 87 = .ok (.aload_n 0, 1) := by decide +kernel
theorem dX12_readsPay_88 : decode cX12_readsPay 88 = .ok (.bipush 12, 2) := by decide +kernel
theorem dX12_readsPay_90 : decode cX12_readsPay 90 = .ok (.invokevirtual 289, 3) := by decide +kernel
theorem dX12_readsPay_93 : decode cX12_readsPay 93 = .ok (.aload_n 0, 1) := by decide +kernel
theorem dX12_readsPay_94 : decode cX12_readsPay 94 = .ok (.getfield 279, 3) := by decide +kernel
theorem dX12_readsPay_97 : decode cX12_readsPay 97 = .ok (.ifCond .ne 7, 3) := by decide +kernel
theorem dX12_readsPay_100 : decode cX12_readsPay 100 = .ok (.iconst 1, 1) := by decide +kernel
theorem dX12_readsPay_101 : decode cX12_readsPay 101 = .ok (.goto 4, 3) := by decide +kernel
theorem dX12_readsPay_104 : decode cX12_readsPay 104 = .ok (.iconst 0, 1) := by decide +kernel
theorem dX12_readsPay_105 : decode cX12_readsPay 105 = .ok (.istore_n 3, 1) := by decide +kernel
theorem dX12_readsPay_106 : decode cX12_readsPay 106 = .ok (.goto (-70), 3) := by decide +kernel
theorem dX12_readsPay_109 : decode cX12_readsPay 109 = .ok (.aload_n 0, 1) := by decide +kernel
theorem dX12_readsPay_110 : decode cX12_readsPay 110 = .ok (.getfield 61, 3) := by decide +kernel
theorem dX12_readsPay_113 : decode cX12_readsPay 113 = .ok (.iload_n 1, 1) := by decide +kernel
theorem dX12_readsPay_114 : decode cX12_readsPay 114 = .ok (.iload_n 2, 1) := by decide +kernel
theorem dX12_readsPay_115 : decode cX12_readsPay 115 = .ok (.iastore, 1) := by decide +kernel
theorem dX12_readsPay_116 : decode cX12_readsPay 116 = .ok (.return_, 1) := by decide +kernel
abbrev M_X12_readsPay : MI := (RX12, cX12_readsPay, 4, none, ({ frames := 3, cells := 0, slots := 0, locals := 69 } : Room), 0, 0, false)
def f_X12_readsPay_b105 (N : Nat) (K36 : AH → Nat → Int32 → Int32 → Int32 → Option AH) (h : AH) (x0 : Nat) (x1 : Int32) (x2 : Int32) (s3 : Int32) : Option AH := K36 h x0 x1 x2 s3
def f_X12_readsPay_b82 (N : Nat) (K36 : AH → Nat → Int32 → Int32 → Int32 → Option AH) (h : AH) (x0 : Nat) (x1 : Int32) (x2 : Int32) (s3 : Int32) : Option AH := (if s3 = 0 then K36 h x0 x1 x2 s3 else (f_X12_must h N x0 12).bind fun q19 => (xgi q19 x0 13 70).bind fun v20 => (if v20 = 0 then f_X12_readsPay_b105 N K36 q19 x0 x1 x2 1 else f_X12_readsPay_b105 N K36 q19 x0 x1 x2 0))
def f_X12_readsPay_b81 (N : Nat) (K36 : AH → Nat → Int32 → Int32 → Int32 → Option AH) (h : AH) (x0 : Nat) (x1 : Int32) (x2 : Int32) : Option AH := f_X12_readsPay_b82 N K36 h x0 x1 x2 0
def f_X12_readsPay_b36_body (N : Nat) (K36 : AH → Nat → Int32 → Int32 → Int32 → Option AH) (h : AH) (x0 : Nat) (x1 : Int32) (x2 : Int32) (x3 : Int32) : Option AH := (if x3 = 0 then (xgr h x0 13 19).bind fun v9 => (xis h v9 x1 x2).bind fun h10 => some h10 else (f_X12_readsCase h N x0 ((4 * x1) + x2)).bind fun q11 => (xgi q11 x0 13 70).bind fun v12 => (if v12 = 0 then (if 4 ≤ (x2 + 1) then f_X12_readsPay_b81 N K36 q11 x0 x1 (x2 + 1) else (xgi q11 x0 13 69).bind fun v15 => (f_X12_byteAt q11 x0 v15).bind fun v16 => (if v16 = 32 then f_X12_readsPay_b82 N K36 q11 x0 x1 (x2 + 1) 1 else f_X12_readsPay_b81 N K36 q11 x0 x1 (x2 + 1))) else f_X12_readsPay_b81 N K36 q11 x0 x1 (x2 + 1)))
def f_X12_readsPay_b36 (N : Nat) : Nat → AH → Nat → Int32 → Int32 → Int32 → Option AH
  | 0, _, _, _, _, _ => none
  | n + 1, h, x0, x1, x2, x3 => f_X12_readsPay_b36_body N  (f_X12_readsPay_b36 N  n) h x0 x1 x2 x3
def f_X12_readsPay_b35 (N : Nat) (h : AH) (x0 : Nat) (x1 : Int32) (x2 : Int32) (s3 : Int32) : Option AH := f_X12_readsPay_b36 N N h x0 x1 x2 s3
def f_X12_readsPay (h0 : AH) (N : Nat) (p0 : Nat) (p1 : Int32) : Option AH := if kd h0 p0 = 13 + 1 then (f_X12_must h0 N p0 0).bind fun q1 => (xgr q1 p0 13 15).bind fun v2 => (f_X12_number q1 N p0 4).bind fun q3 => (xis q3.2 v2 p1 q3.1).bind fun h4 => (f_X12_must h4 N p0 1).bind fun q5 => (xgi q5 p0 13 70).bind fun v6 => (if v6 = 0 then f_X12_readsPay_b35 N q5 p0 p1 0 1 else f_X12_readsPay_b35 N q5 p0 p1 0 0) else none
theorem g_X12_readsPay {h0 : AH} {N : Nat} {p0 : Nat} {p1 : Int32} {x : AH} (e : f_X12_readsPay h0 N p0 p1 = some x) : kd h0 p0 = 13 + 1 := by
  unfold f_X12_readsPay at e
  by_cases hk : kd h0 p0 = 13 + 1
  · exact hk
  · rw [if_neg hk] at e
    cases e
theorem km_X12_readsPay : KM yX12_readsPay M_X12_readsPay 1 := ⟨in_tb 1560 (by decide +kernel) rfl, in_tb 9 (by decide +kernel) rfl, by decide +kernel, rfl, rfl⟩
theorem hm_X12_readsPay : M_X12_readsPay.2.2.2.2.2.1 = 0 ∧ M_X12_readsPay.2.2.2.2.2.2.1 = 0 := ⟨rfl, rfl⟩
section
variable {l : Launch} {g : GG}
set_option maxRecDepth 100000 in
set_option maxHeartbeats 4000000 in
theorem t_X12_readsPay_b105 (h0 : AH) (N : Nat) (K36 : AH → Nat → Int32 → Int32 → Int32 → Option AH) (hK36 : ∀ (z : AH) (z0 : Nat) (z1 : Int32) (z2 : Int32) (z3 : Int32), AO l g M_X12_readsPay false h0 36 [(0, .ref z0), (1, .int z1), (2, .int z2), (3, .int z3)] [] z 0 0 rSv (K36 z z0 z1 z2 z3)) (h : AH) (x0 : Nat) (x1 : Int32) (x2 : Int32) (s3 : Int32) : AO l g M_X12_readsPay false h0 105 [(0, .ref x0), (1, .int x1), (2, .int x2)] [.int s3] h 0 0 rSv (f_X12_readsPay_b105 N K36 h x0 x1 x2 s3) := by
  unfold f_X12_readsPay_b105
  refine a_istore_n (lc2 := [(3, .int s3), (0, .ref x0), (1, .int x1), (2, .int x2)]) dX12_readsPay_105 rfl (by decide) rfl ?_
  refine a_goto 36 dX12_readsPay_106 (by decide) ?_
  refine a_pick (lc2 := [(0, .ref x0), (1, .int x1), (2, .int x2), (3, .int s3)]) [1, 2, 3, 0] rfl ?_
  exact hK36 h x0 x1 x2 s3
set_option maxRecDepth 100000 in
set_option maxHeartbeats 4000000 in
theorem t_X12_readsPay_b82 (h0 : AH) (N : Nat) (K36 : AH → Nat → Int32 → Int32 → Int32 → Option AH) (hK36 : ∀ (z : AH) (z0 : Nat) (z1 : Int32) (z2 : Int32) (z3 : Int32), AO l g M_X12_readsPay false h0 36 [(0, .ref z0), (1, .int z1), (2, .int z2), (3, .int z3)] [] z 0 0 rSv (K36 z z0 z1 z2 z3)) (h : AH) (x0 : Nat) (x1 : Int32) (x2 : Int32) (s3 : Int32) : AO l g M_X12_readsPay false h0 82 [(0, .ref x0), (1, .int x1), (2, .int x2)] [.int s3] h 0 0 rSv (f_X12_readsPay_b82 N K36 h x0 x1 x2 s3) := by
  unfold f_X12_readsPay_b82
  refine a_istore_n (lc2 := [(3, .int s3), (0, .ref x0), (1, .int x1), (2, .int x2)]) dX12_readsPay_82 rfl (by decide) rfl ?_
  refine a_iload_n dX12_readsPay_83 rfl 0 rfl ?_
  refine a_if_eq 36 dX12_readsPay_84 (by decide) (fun c18 => ?_) (fun c18 => ?_)
  · refine a_pick (lc2 := [(0, .ref x0), (1, .int x1), (2, .int x2), (3, .int s3)]) [1, 2, 3, 0] rfl ?_
    exact hK36 h x0 x1 x2 s3
  · refine a_aload_n dX12_readsPay_87 rfl 1 rfl ?_
    refine a_bipush (v := 12) dX12_readsPay_88 (by decide) ?_
    refine a_cV_Sv (r := x0) (ci := 13) (as := [.int 12]) (st := []) dX12_readsPay_90 (c_X12_must l g h N x0 12) rfl km_X12_must (hm_X12_must) rfl (by decide) rfl (fun _ ee => g_X12_must ee) w_methodLink_RainCoverModel_289 w_instanceMethod_RainCoverModel_must__I_V w_selects_RainCoverModel_RainCoverModel_must__I_V_RainCoverModel_must__I_V ⟨⟨by decide, by decide⟩, ⟨by decide, by decide⟩⟩ (Nat.le_of_ble_eq_true rfl) (fun q19 => ?_)
    refine a_aload_n dX12_readsPay_93 rfl 1 rfl ?_
    refine a_geti kc13 70 dX12_readsPay_94 (by decide) rfl w_fieldLink_RainCoverModel_279 (fun v20 => ?_)
    refine a_if_ne 104 dX12_readsPay_97 (by decide) (fun c21 => ?_) (fun c21 => ?_)
    · refine a_iconst (v := 1) dX12_readsPay_100 (by decide) ?_
      refine a_goto 105 dX12_readsPay_101 (by decide) ?_
      refine a_pick (lc2 := [(0, .ref x0), (1, .int x1), (2, .int x2)]) [1, 2, 3] rfl ?_
      exact t_X12_readsPay_b105 h0 N K36 hK36 q19 x0 x1 x2 1
    · refine a_iconst (v := 0) dX12_readsPay_104 (by decide) ?_
      refine a_pick (lc2 := [(0, .ref x0), (1, .int x1), (2, .int x2)]) [1, 2, 3] rfl ?_
      exact t_X12_readsPay_b105 h0 N K36 hK36 q19 x0 x1 x2 0
set_option maxRecDepth 100000 in
set_option maxHeartbeats 4000000 in
theorem t_X12_readsPay_b81 (h0 : AH) (N : Nat) (K36 : AH → Nat → Int32 → Int32 → Int32 → Option AH) (hK36 : ∀ (z : AH) (z0 : Nat) (z1 : Int32) (z2 : Int32) (z3 : Int32), AO l g M_X12_readsPay false h0 36 [(0, .ref z0), (1, .int z1), (2, .int z2), (3, .int z3)] [] z 0 0 rSv (K36 z z0 z1 z2 z3)) (h : AH) (x0 : Nat) (x1 : Int32) (x2 : Int32) : AO l g M_X12_readsPay false h0 81 [(0, .ref x0), (1, .int x1), (2, .int x2)] [] h 0 0 rSv (f_X12_readsPay_b81 N K36 h x0 x1 x2) := by
  unfold f_X12_readsPay_b81
  refine a_iconst (v := 0) dX12_readsPay_81 (by decide) ?_
  exact t_X12_readsPay_b82 h0 N K36 hK36 h x0 x1 x2 0
set_option maxRecDepth 100000 in
set_option maxHeartbeats 4000000 in
theorem t_X12_readsPay_b36_body (h0 : AH) (N : Nat) (K36 : AH → Nat → Int32 → Int32 → Int32 → Option AH) (hK36 : ∀ (z : AH) (z0 : Nat) (z1 : Int32) (z2 : Int32) (z3 : Int32), AO l g M_X12_readsPay false h0 36 [(0, .ref z0), (1, .int z1), (2, .int z2), (3, .int z3)] [] z 0 0 rSv (K36 z z0 z1 z2 z3)) (h : AH) (x0 : Nat) (x1 : Int32) (x2 : Int32) (x3 : Int32) : AO l g M_X12_readsPay false h0 36 [(0, .ref x0), (1, .int x1), (2, .int x2), (3, .int x3)] [] h 0 0 rSv (f_X12_readsPay_b36_body N K36 h x0 x1 x2 x3) := by
  unfold f_X12_readsPay_b36_body
  refine a_iload_n dX12_readsPay_36 rfl 3 rfl ?_
  refine a_if_eq 109 dX12_readsPay_37 (by decide) (fun c8 => ?_) (fun c8 => ?_)
  · refine a_aload_n dX12_readsPay_109 rfl 0 rfl ?_
    refine a_getr kc13 19 dX12_readsPay_110 (by decide) rfl w_fieldLink_RainCoverModel_61 (fun v9 => ?_)
    refine a_iload_n dX12_readsPay_113 rfl 1 rfl ?_
    refine a_iload_n dX12_readsPay_114 rfl 2 rfl ?_
    refine a_iast dX12_readsPay_115 (fun h10 => ?_)
    exact a_vret dX12_readsPay_116 rfl rfl (by decide) (by decide)
  · refine a_aload_n dX12_readsPay_40 rfl 0 rfl ?_
    refine a_iconst (v := 4) dX12_readsPay_41 (by decide) ?_
    refine a_iload_n dX12_readsPay_42 rfl 1 rfl ?_
    refine a_imul dX12_readsPay_43 ?_
    refine a_iload_n dX12_readsPay_44 rfl 2 rfl ?_
    refine a_iadd dX12_readsPay_45 ?_
    refine a_cV_Sv (r := x0) (ci := 13) (as := [.int ((4 * x1) + x2)]) (st := []) dX12_readsPay_46 (c_X12_readsCase l g h N x0 ((4 * x1) + x2)) rfl km_X12_readsCase (hm_X12_readsCase) rfl (by decide) rfl (fun _ ee => g_X12_readsCase ee) w_methodLink_RainCoverModel_295 w_instanceMethod_RainCoverModel_readsCase__I_V w_selects_RainCoverModel_RainCoverModel_readsCase__I_V_RainCoverModel_readsCase__I_V ⟨⟨by decide, by decide⟩, ⟨by decide, by decide⟩⟩ (Nat.le_of_ble_eq_true rfl) (fun q11 => ?_)
    refine a_iinc (q := 2) (v := (x2 + 1)) (lc2 := [(2, .int (x2 + 1)), (0, .ref x0), (1, .int x1), (3, .int x3)]) dX12_readsPay_49 rfl rfl (by decide) rfl ?_
    refine a_aload_n dX12_readsPay_52 rfl 1 rfl ?_
    refine a_geti kc13 70 dX12_readsPay_53 (by decide) rfl w_fieldLink_RainCoverModel_279 (fun v12 => ?_)
    refine a_if_ne 81 dX12_readsPay_56 (by decide) (fun c13 => ?_) (fun c13 => ?_)
    · refine a_iload_n dX12_readsPay_59 rfl 0 rfl ?_
      refine a_iconst (v := 4) dX12_readsPay_60 (by decide) ?_
      refine a_icmp_ge 81 dX12_readsPay_61 (by decide) (fun c14 => ?_) (fun c14 => ?_)
      · refine a_pick (lc2 := [(0, .ref x0), (1, .int x1), (2, .int (x2 + 1))]) [1, 2, 0] rfl ?_
        exact t_X12_readsPay_b81 h0 N K36 hK36 q11 x0 x1 (x2 + 1)
      · refine a_aload_n dX12_readsPay_64 rfl 1 rfl ?_
        refine a_aload_n dX12_readsPay_65 rfl 1 rfl ?_
        refine a_geti kc13 69 dX12_readsPay_66 (by decide) rfl w_fieldLink_RainCoverModel_283 (fun v15 => ?_)
        refine a_cV_Pi (r := x0) (ci := 13) (as := [.int v15]) (st := []) dX12_readsPay_69 (c_X12_byteAt l g q11 x0 v15) rfl km_X12_byteAt (hm_X12_byteAt) rfl (by decide) rfl (fun _ ee => g_X12_byteAt ee) w_methodLink_RainCoverModel_286 w_instanceMethod_RainCoverModel_byteAt__I_I w_selects_RainCoverModel_RainCoverModel_byteAt__I_I_RainCoverModel_byteAt__I_I ⟨⟨by decide, by decide⟩, ⟨by decide, by decide⟩⟩ (Nat.le_of_ble_eq_true rfl) (fun v16 => ?_)
        refine a_bipush (v := 32) dX12_readsPay_72 (by decide) ?_
        refine a_icmp_ne 81 dX12_readsPay_74 (by decide) (fun c17 => ?_) (fun c17 => ?_)
        · refine a_iconst (v := 1) dX12_readsPay_77 (by decide) ?_
          refine a_goto 82 dX12_readsPay_78 (by decide) ?_
          refine a_pick (lc2 := [(0, .ref x0), (1, .int x1), (2, .int (x2 + 1))]) [1, 2, 0] rfl ?_
          exact t_X12_readsPay_b82 h0 N K36 hK36 q11 x0 x1 (x2 + 1) 1
        · refine a_pick (lc2 := [(0, .ref x0), (1, .int x1), (2, .int (x2 + 1))]) [1, 2, 0] rfl ?_
          exact t_X12_readsPay_b81 h0 N K36 hK36 q11 x0 x1 (x2 + 1)
    · refine a_pick (lc2 := [(0, .ref x0), (1, .int x1), (2, .int (x2 + 1))]) [1, 2, 0] rfl ?_
      exact t_X12_readsPay_b81 h0 N K36 hK36 q11 x0 x1 (x2 + 1)
set_option maxRecDepth 100000 in
set_option maxHeartbeats 4000000 in
theorem t_X12_readsPay_b36 (h0 : AH) (N : Nat) : ∀ (n : Nat) (h : AH) (x0 : Nat) (x1 : Int32) (x2 : Int32) (x3 : Int32) , AO l g M_X12_readsPay false h0 36 [(0, .ref x0), (1, .int x1), (2, .int x2), (3, .int x3)] [] h 0 0 rSv (f_X12_readsPay_b36 N  n h x0 x1 x2 x3) := by
  intro n
  induction n with
  | zero => intro h x0 x1 x2 x3; exact a_eq rfl a_none
  | succ n ih => intro h x0 x1 x2 x3; exact a_eq rfl (t_X12_readsPay_b36_body h0 N  (f_X12_readsPay_b36 N  n) ih h x0 x1 x2 x3)
set_option maxRecDepth 100000 in
set_option maxHeartbeats 4000000 in
theorem t_X12_readsPay_b35 (h0 : AH) (N : Nat) (h : AH) (x0 : Nat) (x1 : Int32) (x2 : Int32) (s3 : Int32) : AO l g M_X12_readsPay false h0 35 [(0, .ref x0), (1, .int x1), (2, .int x2)] [.int s3] h 0 0 rSv (f_X12_readsPay_b35 N  h x0 x1 x2 s3) := by
  unfold f_X12_readsPay_b35
  refine a_istore_n (lc2 := [(3, .int s3), (0, .ref x0), (1, .int x1), (2, .int x2)]) dX12_readsPay_35 rfl (by decide) rfl ?_
  refine a_pick (lc2 := [(0, .ref x0), (1, .int x1), (2, .int x2), (3, .int s3)]) [1, 2, 3, 0] rfl ?_
  exact t_X12_readsPay_b36 h0 N N h x0 x1 x2 s3
end
set_option maxRecDepth 100000 in
set_option maxHeartbeats 4000000 in
theorem c_X12_readsPay (l : Launch) (g : GG) (h0 : AH) (N : Nat) (p0 : Nat) (p1 : Int32) : CN l g yX12_readsPay M_X12_readsPay false [.ref p0, .int p1] h0 rSv (f_X12_readsPay h0 N p0 p1) := by
  refine CN.of (by decide) rfl (fun hh => by first | rfl | cases hh) (Nat.le_of_ble_eq_true rfl) ?_
  unfold f_X12_readsPay
  refine a_gd (fun hkd => ?_)
  refine a_aload_n dX12_readsPay_0 rfl 0 rfl ?_
  refine a_iconst (v := 0) dX12_readsPay_1 (by decide) ?_
  refine a_cV_Sv (r := p0) (ci := 13) (as := [.int 0]) (st := []) dX12_readsPay_2 (c_X12_must l g h0 N p0 0) rfl km_X12_must (hm_X12_must) rfl (by decide) rfl (fun _ ee => g_X12_must ee) w_methodLink_RainCoverModel_289 w_instanceMethod_RainCoverModel_must__I_V w_selects_RainCoverModel_RainCoverModel_must__I_V_RainCoverModel_must__I_V ⟨⟨by decide, by decide⟩, ⟨by decide, by decide⟩⟩ (Nat.le_of_ble_eq_true rfl) (fun q1 => ?_)
  refine a_aload_n dX12_readsPay_5 rfl 0 rfl ?_
  refine a_getr kc13 15 dX12_readsPay_6 (by decide) rfl w_fieldLink_RainCoverModel_49 (fun v2 => ?_)
  refine a_iload_n dX12_readsPay_9 rfl 1 rfl ?_
  refine a_aload_n dX12_readsPay_10 rfl 0 rfl ?_
  refine a_iconst (v := 4) dX12_readsPay_11 (by decide) ?_
  refine a_cV_Si (r := p0) (ci := 13) (as := [.int 4]) (st := [.int p1, .ref v2]) dX12_readsPay_12 (c_X12_number l g q1 N p0 4) rfl km_X12_number (hm_X12_number) rfl (by decide) rfl (fun _ ee => g_X12_number ee) w_methodLink_RainCoverModel_292 w_instanceMethod_RainCoverModel_number__I_I w_selects_RainCoverModel_RainCoverModel_number__I_I_RainCoverModel_number__I_I ⟨⟨by decide, by decide⟩, ⟨by decide, by decide⟩⟩ (Nat.le_of_ble_eq_true rfl) (fun q3 => ?_)
  refine a_iast dX12_readsPay_15 (fun h4 => ?_)
  refine a_aload_n dX12_readsPay_16 rfl 0 rfl ?_
  refine a_iconst (v := 1) dX12_readsPay_17 (by decide) ?_
  refine a_cV_Sv (r := p0) (ci := 13) (as := [.int 1]) (st := []) dX12_readsPay_18 (c_X12_must l g h4 N p0 1) rfl km_X12_must (hm_X12_must) rfl (by decide) rfl (fun _ ee => g_X12_must ee) w_methodLink_RainCoverModel_289 w_instanceMethod_RainCoverModel_must__I_V w_selects_RainCoverModel_RainCoverModel_must__I_V_RainCoverModel_must__I_V ⟨⟨by decide, by decide⟩, ⟨by decide, by decide⟩⟩ (Nat.le_of_ble_eq_true rfl) (fun q5 => ?_)
  refine a_iconst (v := 0) dX12_readsPay_21 (by decide) ?_
  refine a_istore_n (lc2 := [(2, .int 0), (0, .ref p0), (1, .int p1)]) dX12_readsPay_22 rfl (by decide) rfl ?_
  refine a_aload_n dX12_readsPay_23 rfl 1 rfl ?_
  refine a_geti kc13 70 dX12_readsPay_24 (by decide) rfl w_fieldLink_RainCoverModel_279 (fun v6 => ?_)
  refine a_if_ne 34 dX12_readsPay_27 (by decide) (fun c7 => ?_) (fun c7 => ?_)
  · refine a_iconst (v := 1) dX12_readsPay_30 (by decide) ?_
    refine a_goto 35 dX12_readsPay_31 (by decide) ?_
    refine a_pick (lc2 := [(0, .ref p0), (1, .int p1), (2, .int 0)]) [1, 2, 0] rfl ?_
    exact t_X12_readsPay_b35 h0 N q5 p0 p1 0 1
  · refine a_iconst (v := 0) dX12_readsPay_34 (by decide) ?_
    refine a_pick (lc2 := [(0, .ref p0), (1, .int p1), (2, .int 0)]) [1, 2, 0] rfl ?_
    exact t_X12_readsPay_b35 h0 N q5 p0 p1 0 0
theorem dX12_readsRate_0 : decode cX12_readsRate 0 = .ok (.aload_n 0, 1) := by decide +kernel
theorem dX12_readsRate_1 : decode cX12_readsRate 1 = .ok (.iconst 2, 1) := by decide +kernel
theorem dX12_readsRate_2 : decode cX12_readsRate 2 = .ok (.invokevirtual 289, 3) := by decide +kernel
theorem dX12_readsRate_5 : decode cX12_readsRate 5 = .ok (.aload_n 0, 1) := by decide +kernel
theorem dX12_readsRate_6 : decode cX12_readsRate 6 = .ok (.getfield 49, 3) := by decide +kernel
theorem dX12_readsRate_9 : decode cX12_readsRate 9 = .ok (.iload_n 1, 1) := by decide +kernel
theorem dX12_readsRate_10 : decode cX12_readsRate 10 = .ok (.aload_n 0, 1) := by decide +kernel
theorem dX12_readsRate_11 : decode cX12_readsRate 11 = .ok (.iconst 4, 1) := by decide +kernel
theorem dX12_readsRate_12 : decode cX12_readsRate 12 = .ok (.invokevirtual 292, 3) := by decide +kernel
theorem dX12_readsRate_15 : decode cX12_readsRate 15 = .ok (.iastore, 1) := by decide +kernel
theorem dX12_readsRate_16 : decode cX12_readsRate 16 = .ok (.aload_n 0, 1) := by decide +kernel
theorem dX12_readsRate_17 : decode cX12_readsRate 17 = .ok (.iconst 3, 1) := by decide +kernel
theorem dX12_readsRate_18 : decode cX12_readsRate 18 = .ok (.invokevirtual 289, 3) := by decide +kernel
theorem dX12_readsRate_21 : decode cX12_readsRate 21 = .ok (.aload_n 0, 1) := by decide +kernel
theorem dX12_readsRate_22 : decode cX12_readsRate 22 = .ok (.getfield 52, 3) := by decide +kernel
theorem dX12_readsRate_25 : decode cX12_readsRate 25 = .ok (.iload_n 1, 1) := by decide +kernel
theorem dX12_readsRate_26 : decode cX12_readsRate 26 = .ok (.aload_n 0, 1) := by decide +kernel
theorem dX12_readsRate_27 : decode cX12_readsRate 27 = .ok (.iconst 4, 1) := by decide +kernel
theorem dX12_readsRate_28 : decode cX12_readsRate 28 = .ok (.invokevirtual 292, 3) := by decide +kernel
theorem dX12_readsRate_31 : decode cX12_readsRate 31 = .ok (.iastore, 1) := by decide +kernel
theorem dX12_readsRate_32 : decode cX12_readsRate 32 = .ok (.aload_n 0, 1) := by decide +kernel
theorem dX12_readsRate_33 : decode cX12_readsRate 33 = .ok (.iconst 4, 1) := by decide +kernel
theorem dX12_readsRate_34 : decode cX12_readsRate 34 = .ok (.invokevirtual 289, 3) := by decide +kernel
theorem dX12_readsRate_37 : decode cX12_readsRate 37 = .ok (.aload_n 0, 1) := by decide +kernel
theorem dX12_readsRate_38 : decode cX12_readsRate 38 = .ok (.getfield 55, 3) := by decide +kernel
theorem dX12_readsRate_41 : decode cX12_readsRate 41 = .ok (.iload_n 1, 1) := by decide +kernel
theorem dX12_readsRate_42 : decode cX12_readsRate 42 = .ok (.aload_n 0, 1) := by decide +kernel
theorem dX12_readsRate_43 : decode cX12_readsRate 43 = .ok (.iconst 4, 1) := by decide +kernel
theorem dX12_readsRate_44 : decode cX12_readsRate 44 = .ok (.invokevirtual 292, 3) := by decide +kernel
theorem dX12_readsRate_47 : decode cX12_readsRate 47 = .ok (.iastore, 1) := by decide +kernel
theorem dX12_readsRate_48 : decode cX12_readsRate 48 = .ok (.aload_n 0, 1) := by decide +kernel
theorem dX12_readsRate_49 : decode cX12_readsRate 49 = .ok (.iconst 5, 1) := by decide +kernel
theorem dX12_readsRate_50 : decode cX12_readsRate 50 = .ok (.invokevirtual 289, 3) := by decide +kernel
theorem dX12_readsRate_53 : decode cX12_readsRate 53 = .ok (.aload_n 0, 1) := by decide +kernel
theorem dX12_readsRate_54 : decode cX12_readsRate 54 = .ok (.getfield 67, 3) := by decide +kernel
theorem dX12_readsRate_57 : decode cX12_readsRate 57 = .ok (.iconst 4, 1) := by decide +kernel
theorem dX12_readsRate_58 : decode cX12_readsRate 58 = .ok (.iload_n 1, 1) := by decide +kernel
theorem dX12_readsRate_59 : decode cX12_readsRate 59 = .ok (.imul, 1) := by decide +kernel
theorem dX12_readsRate_60 : decode cX12_readsRate 60 = .ok (.aload_n 0, 1) := by decide +kernel
theorem dX12_readsRate_61 : decode cX12_readsRate 61 = .ok (.iconst 2, 1) := by decide +kernel
theorem dX12_readsRate_62 : decode cX12_readsRate 62 = .ok (.invokevirtual 292, 3) := by decide +kernel
theorem dX12_readsRate_65 : decode cX12_readsRate 65 = .ok (.iastore, 1) := by decide +kernel
theorem dX12_readsRate_66 : decode cX12_readsRate 66 = .ok (.aload_n 0, 1) := by decide +kernel
theorem dX12_readsRate_67 : decode cX12_readsRate 67 = .ok (.bipush 6, 2) := by decide +kernel
theorem dX12_readsRate_69 : decode cX12_readsRate 69 = .ok (.invokevirtual 289, 3) := by decide +kernel
theorem dX12_readsRate_72 : decode cX12_readsRate 72 = .ok (.aload_n 0, 1) := by decide +kernel
theorem dX12_readsRate_73 : decode cX12_readsRate 73 = .ok (.getfield 70, 3) := by decide +kernel
theorem dX12_readsRate_76 : decode cX12_readsRate 76 = .ok (.iconst 4, 1) := by decide +kernel
theorem dX12_readsRate_77 : decode cX12_readsRate 77 = .ok (.iload_n 1, 1) := by decide +kernel
theorem dX12_readsRate_78 : decode cX12_readsRate 78 = .ok (.imul, 1) := by decide +kernel
theorem dX12_readsRate_79 : decode cX12_readsRate 79 = .ok (.aload_n 0, 1) := by decide +kernel
theorem dX12_readsRate_80 : decode cX12_readsRate 80 = .ok (.iconst 2, 1) := by decide +kernel
theorem dX12_readsRate_81 : decode cX12_readsRate 81 = .ok (.invokevirtual 292, 3) := by decide +kernel
theorem dX12_readsRate_84 : decode cX12_readsRate 84 = .ok (.iastore, 1) := by decide +kernel
theorem dX12_readsRate_85 : decode cX12_readsRate 85 = .ok (.aload_n 0, 1) := by decide +kernel
theorem dX12_readsRate_86 : decode cX12_readsRate 86 = .ok (.bipush 7, 2) := by decide +kernel
theorem dX12_readsRate_88 : decode cX12_readsRate 88 = .ok (.invokevirtual 289, 3) := by decide +kernel
theorem dX12_readsRate_91 : decode cX12_readsRate 91 = .ok (.aload_n 0, 1) := by decide +kernel
theorem dX12_readsRate_92 : decode cX12_readsRate 92 = .ok (.getfield 58, 3) := by decide +kernel
theorem dX12_readsRate_95 : decode cX12_readsRate 95 = .ok (.iload_n 1, 1) := by decide +kernel
theorem dX12_readsRate_96 : decode cX12_readsRate 96 = .ok (.aload_n 0, 1) := by decide +kernel
theorem dX12_readsRate_97 : decode cX12_readsRate 97 = .ok (.iconst 4, 1) := by decide +kernel
theorem dX12_readsRate_98 : decode cX12_readsRate 98 = .ok (.invokevirtual 292, 3) := by decide +kernel
theorem dX12_readsRate_101 : decode cX12_readsRate 101 = .ok (.iastore, 1) := by decide +kernel
theorem dX12_readsRate_102 : decode cX12_readsRate 102 = .ok (.aload_n 0, 1) := by decide +kernel
theorem dX12_readsRate_103 : decode cX12_readsRate 103 = .ok (.getfield 61, 3) := by decide +kernel
theorem dX12_readsRate_106 : decode cX12_readsRate 106 = .ok (.iload_n 1, 1) := by decide +kernel
theorem dX12_readsRate_107 : decode cX12_readsRate 107 = .ok (.iconst 1, 1) := by decide +kernel
theorem dX12_readsRate_108 : decode cX12_readsRate 108 = .ok (.iastore, 1) := by decide +kernel
theorem dX12_readsRate_109 : decode cX12_readsRate 109 = .ok (.return_, 1) := by decide +kernel
abbrev M_X12_readsRate : MI := (RX12, cX12_readsRate, 2, none, ({ frames := 2, cells := 0, slots := 0, locals := 45 } : Room), 0, 0, false)
def f_X12_readsRate (h0 : AH) (N : Nat) (p0 : Nat) (p1 : Int32) : Option AH := if kd h0 p0 = 13 + 1 then (f_X12_must h0 N p0 2).bind fun q1 => (xgr q1 p0 13 15).bind fun v2 => (f_X12_number q1 N p0 4).bind fun q3 => (xis q3.2 v2 p1 q3.1).bind fun h4 => (f_X12_must h4 N p0 3).bind fun q5 => (xgr q5 p0 13 16).bind fun v6 => (f_X12_number q5 N p0 4).bind fun q7 => (xis q7.2 v6 p1 q7.1).bind fun h8 => (f_X12_must h8 N p0 4).bind fun q9 => (xgr q9 p0 13 17).bind fun v10 => (f_X12_number q9 N p0 4).bind fun q11 => (xis q11.2 v10 p1 q11.1).bind fun h12 => (f_X12_must h12 N p0 5).bind fun q13 => (xgr q13 p0 13 21).bind fun v14 => (f_X12_number q13 N p0 2).bind fun q15 => (xis q15.2 v14 (4 * p1) q15.1).bind fun h16 => (f_X12_must h16 N p0 6).bind fun q17 => (xgr q17 p0 13 22).bind fun v18 => (f_X12_number q17 N p0 2).bind fun q19 => (xis q19.2 v18 (4 * p1) q19.1).bind fun h20 => (f_X12_must h20 N p0 7).bind fun q21 => (xgr q21 p0 13 18).bind fun v22 => (f_X12_number q21 N p0 4).bind fun q23 => (xis q23.2 v22 p1 q23.1).bind fun h24 => (xgr h24 p0 13 19).bind fun v25 => (xis h24 v25 p1 1).bind fun h26 => some h26 else none
theorem g_X12_readsRate {h0 : AH} {N : Nat} {p0 : Nat} {p1 : Int32} {x : AH} (e : f_X12_readsRate h0 N p0 p1 = some x) : kd h0 p0 = 13 + 1 := by
  unfold f_X12_readsRate at e
  by_cases hk : kd h0 p0 = 13 + 1
  · exact hk
  · rw [if_neg hk] at e
    cases e
theorem km_X12_readsRate : KM yX12_readsRate M_X12_readsRate 1 := ⟨in_tb 1544 (by decide +kernel) rfl, in_tb 9 (by decide +kernel) rfl, by decide +kernel, rfl, rfl⟩
theorem hm_X12_readsRate : M_X12_readsRate.2.2.2.2.2.1 = 0 ∧ M_X12_readsRate.2.2.2.2.2.2.1 = 0 := ⟨rfl, rfl⟩
section
variable {l : Launch} {g : GG}
end
set_option maxRecDepth 100000 in
set_option maxHeartbeats 4000000 in
theorem c_X12_readsRate (l : Launch) (g : GG) (h0 : AH) (N : Nat) (p0 : Nat) (p1 : Int32) : CN l g yX12_readsRate M_X12_readsRate false [.ref p0, .int p1] h0 rSv (f_X12_readsRate h0 N p0 p1) := by
  refine CN.of (by decide) rfl (fun hh => by first | rfl | cases hh) (Nat.le_of_ble_eq_true rfl) ?_
  unfold f_X12_readsRate
  refine a_gd (fun hkd => ?_)
  refine a_aload_n dX12_readsRate_0 rfl 0 rfl ?_
  refine a_iconst (v := 2) dX12_readsRate_1 (by decide) ?_
  refine a_cV_Sv (r := p0) (ci := 13) (as := [.int 2]) (st := []) dX12_readsRate_2 (c_X12_must l g h0 N p0 2) rfl km_X12_must (hm_X12_must) rfl (by decide) rfl (fun _ ee => g_X12_must ee) w_methodLink_RainCoverModel_289 w_instanceMethod_RainCoverModel_must__I_V w_selects_RainCoverModel_RainCoverModel_must__I_V_RainCoverModel_must__I_V ⟨⟨by decide, by decide⟩, ⟨by decide, by decide⟩⟩ (Nat.le_of_ble_eq_true rfl) (fun q1 => ?_)
  refine a_aload_n dX12_readsRate_5 rfl 0 rfl ?_
  refine a_getr kc13 15 dX12_readsRate_6 (by decide) rfl w_fieldLink_RainCoverModel_49 (fun v2 => ?_)
  refine a_iload_n dX12_readsRate_9 rfl 1 rfl ?_
  refine a_aload_n dX12_readsRate_10 rfl 0 rfl ?_
  refine a_iconst (v := 4) dX12_readsRate_11 (by decide) ?_
  refine a_cV_Si (r := p0) (ci := 13) (as := [.int 4]) (st := [.int p1, .ref v2]) dX12_readsRate_12 (c_X12_number l g q1 N p0 4) rfl km_X12_number (hm_X12_number) rfl (by decide) rfl (fun _ ee => g_X12_number ee) w_methodLink_RainCoverModel_292 w_instanceMethod_RainCoverModel_number__I_I w_selects_RainCoverModel_RainCoverModel_number__I_I_RainCoverModel_number__I_I ⟨⟨by decide, by decide⟩, ⟨by decide, by decide⟩⟩ (Nat.le_of_ble_eq_true rfl) (fun q3 => ?_)
  refine a_iast dX12_readsRate_15 (fun h4 => ?_)
  refine a_aload_n dX12_readsRate_16 rfl 0 rfl ?_
  refine a_iconst (v := 3) dX12_readsRate_17 (by decide) ?_
  refine a_cV_Sv (r := p0) (ci := 13) (as := [.int 3]) (st := []) dX12_readsRate_18 (c_X12_must l g h4 N p0 3) rfl km_X12_must (hm_X12_must) rfl (by decide) rfl (fun _ ee => g_X12_must ee) w_methodLink_RainCoverModel_289 w_instanceMethod_RainCoverModel_must__I_V w_selects_RainCoverModel_RainCoverModel_must__I_V_RainCoverModel_must__I_V ⟨⟨by decide, by decide⟩, ⟨by decide, by decide⟩⟩ (Nat.le_of_ble_eq_true rfl) (fun q5 => ?_)
  refine a_aload_n dX12_readsRate_21 rfl 0 rfl ?_
  refine a_getr kc13 16 dX12_readsRate_22 (by decide) rfl w_fieldLink_RainCoverModel_52 (fun v6 => ?_)
  refine a_iload_n dX12_readsRate_25 rfl 1 rfl ?_
  refine a_aload_n dX12_readsRate_26 rfl 0 rfl ?_
  refine a_iconst (v := 4) dX12_readsRate_27 (by decide) ?_
  refine a_cV_Si (r := p0) (ci := 13) (as := [.int 4]) (st := [.int p1, .ref v6]) dX12_readsRate_28 (c_X12_number l g q5 N p0 4) rfl km_X12_number (hm_X12_number) rfl (by decide) rfl (fun _ ee => g_X12_number ee) w_methodLink_RainCoverModel_292 w_instanceMethod_RainCoverModel_number__I_I w_selects_RainCoverModel_RainCoverModel_number__I_I_RainCoverModel_number__I_I ⟨⟨by decide, by decide⟩, ⟨by decide, by decide⟩⟩ (Nat.le_of_ble_eq_true rfl) (fun q7 => ?_)
  refine a_iast dX12_readsRate_31 (fun h8 => ?_)
  refine a_aload_n dX12_readsRate_32 rfl 0 rfl ?_
  refine a_iconst (v := 4) dX12_readsRate_33 (by decide) ?_
  refine a_cV_Sv (r := p0) (ci := 13) (as := [.int 4]) (st := []) dX12_readsRate_34 (c_X12_must l g h8 N p0 4) rfl km_X12_must (hm_X12_must) rfl (by decide) rfl (fun _ ee => g_X12_must ee) w_methodLink_RainCoverModel_289 w_instanceMethod_RainCoverModel_must__I_V w_selects_RainCoverModel_RainCoverModel_must__I_V_RainCoverModel_must__I_V ⟨⟨by decide, by decide⟩, ⟨by decide, by decide⟩⟩ (Nat.le_of_ble_eq_true rfl) (fun q9 => ?_)
  refine a_aload_n dX12_readsRate_37 rfl 0 rfl ?_
  refine a_getr kc13 17 dX12_readsRate_38 (by decide) rfl w_fieldLink_RainCoverModel_55 (fun v10 => ?_)
  refine a_iload_n dX12_readsRate_41 rfl 1 rfl ?_
  refine a_aload_n dX12_readsRate_42 rfl 0 rfl ?_
  refine a_iconst (v := 4) dX12_readsRate_43 (by decide) ?_
  refine a_cV_Si (r := p0) (ci := 13) (as := [.int 4]) (st := [.int p1, .ref v10]) dX12_readsRate_44 (c_X12_number l g q9 N p0 4) rfl km_X12_number (hm_X12_number) rfl (by decide) rfl (fun _ ee => g_X12_number ee) w_methodLink_RainCoverModel_292 w_instanceMethod_RainCoverModel_number__I_I w_selects_RainCoverModel_RainCoverModel_number__I_I_RainCoverModel_number__I_I ⟨⟨by decide, by decide⟩, ⟨by decide, by decide⟩⟩ (Nat.le_of_ble_eq_true rfl) (fun q11 => ?_)
  refine a_iast dX12_readsRate_47 (fun h12 => ?_)
  refine a_aload_n dX12_readsRate_48 rfl 0 rfl ?_
  refine a_iconst (v := 5) dX12_readsRate_49 (by decide) ?_
  refine a_cV_Sv (r := p0) (ci := 13) (as := [.int 5]) (st := []) dX12_readsRate_50 (c_X12_must l g h12 N p0 5) rfl km_X12_must (hm_X12_must) rfl (by decide) rfl (fun _ ee => g_X12_must ee) w_methodLink_RainCoverModel_289 w_instanceMethod_RainCoverModel_must__I_V w_selects_RainCoverModel_RainCoverModel_must__I_V_RainCoverModel_must__I_V ⟨⟨by decide, by decide⟩, ⟨by decide, by decide⟩⟩ (Nat.le_of_ble_eq_true rfl) (fun q13 => ?_)
  refine a_aload_n dX12_readsRate_53 rfl 0 rfl ?_
  refine a_getr kc13 21 dX12_readsRate_54 (by decide) rfl w_fieldLink_RainCoverModel_67 (fun v14 => ?_)
  refine a_iconst (v := 4) dX12_readsRate_57 (by decide) ?_
  refine a_iload_n dX12_readsRate_58 rfl 1 rfl ?_
  refine a_imul dX12_readsRate_59 ?_
  refine a_aload_n dX12_readsRate_60 rfl 0 rfl ?_
  refine a_iconst (v := 2) dX12_readsRate_61 (by decide) ?_
  refine a_cV_Si (r := p0) (ci := 13) (as := [.int 2]) (st := [.int (4 * p1), .ref v14]) dX12_readsRate_62 (c_X12_number l g q13 N p0 2) rfl km_X12_number (hm_X12_number) rfl (by decide) rfl (fun _ ee => g_X12_number ee) w_methodLink_RainCoverModel_292 w_instanceMethod_RainCoverModel_number__I_I w_selects_RainCoverModel_RainCoverModel_number__I_I_RainCoverModel_number__I_I ⟨⟨by decide, by decide⟩, ⟨by decide, by decide⟩⟩ (Nat.le_of_ble_eq_true rfl) (fun q15 => ?_)
  refine a_iast dX12_readsRate_65 (fun h16 => ?_)
  refine a_aload_n dX12_readsRate_66 rfl 0 rfl ?_
  refine a_bipush (v := 6) dX12_readsRate_67 (by decide) ?_
  refine a_cV_Sv (r := p0) (ci := 13) (as := [.int 6]) (st := []) dX12_readsRate_69 (c_X12_must l g h16 N p0 6) rfl km_X12_must (hm_X12_must) rfl (by decide) rfl (fun _ ee => g_X12_must ee) w_methodLink_RainCoverModel_289 w_instanceMethod_RainCoverModel_must__I_V w_selects_RainCoverModel_RainCoverModel_must__I_V_RainCoverModel_must__I_V ⟨⟨by decide, by decide⟩, ⟨by decide, by decide⟩⟩ (Nat.le_of_ble_eq_true rfl) (fun q17 => ?_)
  refine a_aload_n dX12_readsRate_72 rfl 0 rfl ?_
  refine a_getr kc13 22 dX12_readsRate_73 (by decide) rfl w_fieldLink_RainCoverModel_70 (fun v18 => ?_)
  refine a_iconst (v := 4) dX12_readsRate_76 (by decide) ?_
  refine a_iload_n dX12_readsRate_77 rfl 1 rfl ?_
  refine a_imul dX12_readsRate_78 ?_
  refine a_aload_n dX12_readsRate_79 rfl 0 rfl ?_
  refine a_iconst (v := 2) dX12_readsRate_80 (by decide) ?_
  refine a_cV_Si (r := p0) (ci := 13) (as := [.int 2]) (st := [.int (4 * p1), .ref v18]) dX12_readsRate_81 (c_X12_number l g q17 N p0 2) rfl km_X12_number (hm_X12_number) rfl (by decide) rfl (fun _ ee => g_X12_number ee) w_methodLink_RainCoverModel_292 w_instanceMethod_RainCoverModel_number__I_I w_selects_RainCoverModel_RainCoverModel_number__I_I_RainCoverModel_number__I_I ⟨⟨by decide, by decide⟩, ⟨by decide, by decide⟩⟩ (Nat.le_of_ble_eq_true rfl) (fun q19 => ?_)
  refine a_iast dX12_readsRate_84 (fun h20 => ?_)
  refine a_aload_n dX12_readsRate_85 rfl 0 rfl ?_
  refine a_bipush (v := 7) dX12_readsRate_86 (by decide) ?_
  refine a_cV_Sv (r := p0) (ci := 13) (as := [.int 7]) (st := []) dX12_readsRate_88 (c_X12_must l g h20 N p0 7) rfl km_X12_must (hm_X12_must) rfl (by decide) rfl (fun _ ee => g_X12_must ee) w_methodLink_RainCoverModel_289 w_instanceMethod_RainCoverModel_must__I_V w_selects_RainCoverModel_RainCoverModel_must__I_V_RainCoverModel_must__I_V ⟨⟨by decide, by decide⟩, ⟨by decide, by decide⟩⟩ (Nat.le_of_ble_eq_true rfl) (fun q21 => ?_)
  refine a_aload_n dX12_readsRate_91 rfl 0 rfl ?_
  refine a_getr kc13 18 dX12_readsRate_92 (by decide) rfl w_fieldLink_RainCoverModel_58 (fun v22 => ?_)
  refine a_iload_n dX12_readsRate_95 rfl 1 rfl ?_
  refine a_aload_n dX12_readsRate_96 rfl 0 rfl ?_
  refine a_iconst (v := 4) dX12_readsRate_97 (by decide) ?_
  refine a_cV_Si (r := p0) (ci := 13) (as := [.int 4]) (st := [.int p1, .ref v22]) dX12_readsRate_98 (c_X12_number l g q21 N p0 4) rfl km_X12_number (hm_X12_number) rfl (by decide) rfl (fun _ ee => g_X12_number ee) w_methodLink_RainCoverModel_292 w_instanceMethod_RainCoverModel_number__I_I w_selects_RainCoverModel_RainCoverModel_number__I_I_RainCoverModel_number__I_I ⟨⟨by decide, by decide⟩, ⟨by decide, by decide⟩⟩ (Nat.le_of_ble_eq_true rfl) (fun q23 => ?_)
  refine a_iast dX12_readsRate_101 (fun h24 => ?_)
  refine a_aload_n dX12_readsRate_102 rfl 0 rfl ?_
  refine a_getr kc13 19 dX12_readsRate_103 (by decide) rfl w_fieldLink_RainCoverModel_61 (fun v25 => ?_)
  refine a_iload_n dX12_readsRate_106 rfl 1 rfl ?_
  refine a_iconst (v := 1) dX12_readsRate_107 (by decide) ?_
  refine a_iast dX12_readsRate_108 (fun h26 => ?_)
  exact a_vret dX12_readsRate_109 rfl rfl (by decide) (by decide)
