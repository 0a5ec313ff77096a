theorem dX12_bits_0 : decode cX12_bits 0 = .ok (.iconst 0, 1) := by decide +kernel
theorem dX12_bits_1 : decode cX12_bits 1 = .ok (.istore_n 1, 1) := by decide +kernel
theorem dX12_bits_2 : decode cX12_bits 2 = .ok (.iconst 0, 1) := by decide +kernel
theorem dX12_bits_3 : decode cX12_bits 3 = .ok (.istore_n 2, 1) := by decide +kernel
theorem dX12_bits_4 : decode cX12_bits 4 = .ok (.iload_n 2, 1) := by decide +kernel
theorem dX12_bits_5 : decode cX12_bits 5 = .ok (.bipush 8, 2) := by decide +kernel
theorem dX12_bits_7 : decode cX12_bits 7 = .ok (.if_icmp .ge 17, 3) := by decide +kernel
theorem dX12_bits_10 : decode cX12_bits 10 = .ok (.iload_n 1, 1) := by decide +kernel
theorem dX12_bits_11 : decode cX12_bits 11 = .ok (.iload_n 0, 1) := by decide +kernel
theorem dX12_bits_12 : decode cX12_bits 12 = .ok (.iload_n 2, 1) := by decide +kernel
theorem dX12_bits_13 : decode cX12_bits 13 = .ok (.ishr, 1) := by decide +kernel
theorem dX12_bits_14 : decode cX12_bits 14 = .ok (.iconst 1, 1) := by decide +kernel
theorem dX12_bits_15 : decode cX12_bits 15 = .ok (.iand, 1) := by decide +kernel
theorem dX12_bits_16 : decode cX12_bits 16 = .ok (.iadd, 1) := by decide +kernel
theorem dX12_bits_17 : decode cX12_bits 17 = .ok (.istore_n 1, 1) := by decide +kernel
theorem dX12_bits_18 : decode cX12_bits 18 = .ok (.iinc 2 1, 3) := by decide +kernel
theorem dX12_bits_21 : decode cX12_bits 21 = .ok (.goto (-17), 3) := by decide +kernel
theorem dX12_bits_24 : decode cX12_bits 24 = .ok (.iload_n 1, 1) := by decide +kernel
theorem dX12_bits_25 : decode cX12_bits 25 = .ok (.ireturn, 1) := by decide +kernel
abbrev M_X12_bits : MI := (RX12, cX12_bits, 3, (some .int), ({ frames := 0, cells := 0, slots := 0, locals := 0 } : Room), 0, 0, false)
def f_X12_bits_b4_body (h : AH) (N : Nat) (K4 : Int32 → Int32 → Int32 → Option Int32) (x0 : Int32) (x1 : Int32) (x2 : Int32) : Option Int32 := (if 8 ≤ x2 then some x1 else K4 x0 (x1 + ((x0 >>> (x2 &&& 31)) &&& 1)) (x2 + 1))
def f_X12_bits_b4 (h : AH) (N : Nat) : Nat → Int32 → Int32 → Int32 → Option Int32
  | 0, _, _, _ => none
  | n + 1, x0, x1, x2 => f_X12_bits_b4_body h N  (f_X12_bits_b4 h N  n) x0 x1 x2
def f_X12_bits (h : AH) (N : Nat) (p0 : Int32) : Option Int32 := f_X12_bits_b4 h N N p0 0 0
theorem km_X12_bits : KM yX12_bits M_X12_bits 1 := ⟨in_tb 1694 (by decide +kernel) rfl, in_tb 9 (by decide +kernel) rfl, by decide +kernel, rfl, rfl⟩
theorem hm_X12_bits : M_X12_bits.2.2.2.2.2.1 = 0 ∧ M_X12_bits.2.2.2.2.2.2.1 = 0 := ⟨rfl, rfl⟩
section
variable {l : Launch} {g : GG}
set_option maxRecDepth 100000 in
set_option maxHeartbeats 4000000 in
theorem t_X12_bits_b4_body (h : AH) (N : Nat) (K4 : Int32 → Int32 → Int32 → Option Int32) (hK4 : ∀ (z0 : Int32) (z1 : Int32) (z2 : Int32), AO l g M_X12_bits false h 4 [(0, .int z0), (1, .int z1), (2, .int z2)] [] h 0 0 (rPi h) (K4 z0 z1 z2)) (x0 : Int32) (x1 : Int32) (x2 : Int32) : AO l g M_X12_bits false h 4 [(0, .int x0), (1, .int x1), (2, .int x2)] [] h 0 0 (rPi h) (f_X12_bits_b4_body h N K4 x0 x1 x2) := by
  unfold f_X12_bits_b4_body
  refine a_iload_n dX12_bits_4 rfl 2 rfl ?_
  refine a_bipush (v := 8) dX12_bits_5 (by decide) ?_
  refine a_icmp_ge 24 dX12_bits_7 (by decide) (fun c1 => ?_) (fun c1 => ?_)
  · refine a_iload_n dX12_bits_24 rfl 1 rfl ?_
    exact a_iret dX12_bits_25 rfl rfl (by decide) (by decide)
  · refine a_iload_n dX12_bits_10 rfl 1 rfl ?_
    refine a_iload_n dX12_bits_11 rfl 0 rfl ?_
    refine a_iload_n dX12_bits_12 rfl 2 rfl ?_
    refine a_ishr dX12_bits_13 ?_
    refine a_iconst (v := 1) dX12_bits_14 (by decide) ?_
    refine a_iand dX12_bits_15 ?_
    refine a_iadd dX12_bits_16 ?_
    refine a_istore_n (lc2 := [(1, .int (x1 + ((x0 >>> (x2 &&& 31)) &&& 1))), (0, .int x0), (2, .int x2)]) dX12_bits_17 rfl (by decide) rfl ?_
    refine a_iinc (q := 2) (v := (x2 + 1)) (lc2 := [(2, .int (x2 + 1)), (1, .int (x1 + ((x0 >>> (x2 &&& 31)) &&& 1))), (0, .int x0)]) dX12_bits_18 rfl rfl (by decide) rfl ?_
    refine a_goto 4 dX12_bits_21 (by decide) ?_
    refine a_pick (lc2 := [(0, .int x0), (1, .int (x1 + ((x0 >>> (x2 &&& 31)) &&& 1))), (2, .int (x2 + 1))]) [2, 1, 0] rfl ?_
    exact hK4 x0 (x1 + ((x0 >>> (x2 &&& 31)) &&& 1)) (x2 + 1)
set_option maxRecDepth 100000 in
set_option maxHeartbeats 4000000 in
theorem t_X12_bits_b4 (h : AH) (N : Nat) : ∀ (n : Nat) (x0 : Int32) (x1 : Int32) (x2 : Int32) , AO l g M_X12_bits false h 4 [(0, .int x0), (1, .int x1), (2, .int x2)] [] h 0 0 (rPi h) (f_X12_bits_b4 h N  n x0 x1 x2) := by
  intro n
  induction n with
  | zero => intro x0 x1 x2; exact a_eq rfl a_none
  | succ n ih => intro x0 x1 x2; exact a_eq rfl (t_X12_bits_b4_body h N  (f_X12_bits_b4 h N  n) ih x0 x1 x2)
end
set_option maxRecDepth 100000 in
set_option maxHeartbeats 4000000 in
theorem c_X12_bits (l : Launch) (g : GG) (h : AH) (N : Nat) (p0 : Int32) : CN l g yX12_bits M_X12_bits false [.int p0] h ((rPi h)) (f_X12_bits h N p0) := by
  refine CN.of (by decide) rfl (fun hh => by first | rfl | cases hh) (Nat.le_of_ble_eq_true rfl) ?_
  unfold f_X12_bits
  refine a_iconst (v := 0) dX12_bits_0 (by decide) ?_
  refine a_istore_n (lc2 := [(1, .int 0), (0, .int p0)]) dX12_bits_1 rfl (by decide) rfl ?_
  refine a_iconst (v := 0) dX12_bits_2 (by decide) ?_
  refine a_istore_n (lc2 := [(2, .int 0), (1, .int 0), (0, .int p0)]) dX12_bits_3 rfl (by decide) rfl ?_
  refine a_pick (lc2 := [(0, .int p0), (1, .int 0), (2, .int 0)]) [2, 1, 0] rfl ?_
  exact t_X12_bits_b4 h N N p0 0 0
theorem dX12_isAhead_0 : decode cX12_isAhead 0 = .ok (.iconst 0, 1) := by decide +kernel
theorem dX12_isAhead_1 : decode cX12_isAhead 1 = .ok (.istore_n 2, 1) := by decide +kernel
theorem dX12_isAhead_2 : decode cX12_isAhead 2 = .ok (.iload_n 0, 1) := by decide +kernel
theorem dX12_isAhead_3 : decode cX12_isAhead 3 = .ok (.iload_n 2, 1) := by decide +kernel
theorem dX12_isAhead_4 : decode cX12_isAhead 4 = .ok (.ishr, 1) := by decide +kernel
theorem dX12_isAhead_5 : decode cX12_isAhead 5 = .ok (.iconst 1, 1) := by decide +kernel
theorem dX12_isAhead_6 : decode cX12_isAhead 6 = .ok (.iand, 1) := by decide +kernel
theorem dX12_isAhead_7 : decode cX12_isAhead 7 = .ok (.iload_n 1, 1) := by decide +kernel
theorem dX12_isAhead_8 : decode cX12_isAhead 8 = .ok (.iload_n 2, 1) := by decide +kernel
theorem dX12_isAhead_9 : decode cX12_isAhead 9 = .ok (.ishr, 1) := by decide +kernel
theorem dX12_isAhead_10 : decode cX12_isAhead 10 = .ok (.iconst 1, 1) := by decide +kernel
theorem dX12_isAhead_11 : decode cX12_isAhead 11 = .ok (.iand, 1) := by decide +kernel
theorem dX12_isAhead_12 : decode cX12_isAhead 12 = .ok (.if_icmp .ne 9, 3) := by decide +kernel
theorem dX12_isAhead_15 : decode cX12_isAhead 15 = .ok (.iinc 2 1, 3) := by decide +kernel
theorem dX12_isAhead_18 : decode cX12_isAhead 18 = .ok (.goto (-16), 3) := by decide +kernel
theorem dX12_isAhead_21 : decode cX12_isAhead 21 = .ok (.iload_n 0, 1) := by decide +kernel
theorem dX12_isAhead_22 : decode cX12_isAhead 22 = .ok (.iload_n 2, 1) := by decide +kernel
theorem dX12_isAhead_23 : decode cX12_isAhead 23 = .ok (.ishr, 1) := by decide +kernel
theorem dX12_isAhead_24 : decode cX12_isAhead 24 = .ok (.iconst 1, 1) := by decide +kernel
theorem dX12_isAhead_25 : decode cX12_isAhead 25 = .ok (.iand, 1) := by decide +kernel
theorem dX12_isAhead_26 : decode cX12_isAhead 26 = .ok (.iconst 1, 1) := by decide +kernel
theorem dX12_isAhead_27 : decode cX12_isAhead 27 = .ok (.if_icmp .ne 7, 3) := by decide +kernel
theorem dX12_isAhead_30 : decode cX12_isAhead 30 = .ok (.iconst 1, 1) := by decide +kernel
theorem dX12_isAhead_31 : decode cX12_isAhead 31 = .ok (.goto 4, 3) := by decide +kernel
theorem dX12_isAhead_34 : decode cX12_isAhead 34 = .ok (.iconst 0, 1) := by decide +kernel
theorem dX12_isAhead_35 : decode cX12_isAhead 35 = .ok (.ireturn, 1) := by decide +kernel
abbrev M_X12_isAhead : MI := (RX12, cX12_isAhead, 3, (some .boolean), ({ frames := 0, cells := 0, slots := 0, locals := 0 } : Room), 0, 0, false)
def f_X12_isAhead_b2_body (h : AH) (N : Nat) (K2 : Int32 → Int32 → Int32 → Option Int32) (x0 : Int32) (x1 : Int32) (x2 : Int32) : Option Int32 := (if ((x0 >>> (x2 &&& 31)) &&& 1) = ((x1 >>> (x2 &&& 31)) &&& 1) then K2 x0 x1 (x2 + 1) else (if ((x0 >>> (x2 &&& 31)) &&& 1) = 1 then some 1 else some 0))
def f_X12_isAhead_b2 (h : AH) (N : Nat) : Nat → Int32 → Int32 → Int32 → Option Int32
  | 0, _, _, _ => none
  | n + 1, x0, x1, x2 => f_X12_isAhead_b2_body h N  (f_X12_isAhead_b2 h N  n) x0 x1 x2
def f_X12_isAhead (h : AH) (N : Nat) (p0 : Int32) (p1 : Int32) : Option Int32 := f_X12_isAhead_b2 h N N p0 p1 0
theorem km_X12_isAhead : KM yX12_isAhead M_X12_isAhead 2 := ⟨in_tb 1701 (by decide +kernel) rfl, in_tb 9 (by decide +kernel) rfl, by decide +kernel, rfl, rfl⟩
theorem hm_X12_isAhead : M_X12_isAhead.2.2.2.2.2.1 = 0 ∧ M_X12_isAhead.2.2.2.2.2.2.1 = 0 := ⟨rfl, rfl⟩
section
variable {l : Launch} {g : GG}
set_option maxRecDepth 100000 in
set_option maxHeartbeats 4000000 in
theorem t_X12_isAhead_b2_body (h : AH) (N : Nat) (K2 : Int32 → Int32 → Int32 → Option Int32) (hK2 : ∀ (z0 : Int32) (z1 : Int32) (z2 : Int32), AO l g M_X12_isAhead false h 2 [(0, .int z0), (1, .int z1), (2, .int z2)] [] h 0 0 (rPi h) (K2 z0 z1 z2)) (x0 : Int32) (x1 : Int32) (x2 : Int32) : AO l g M_X12_isAhead false h 2 [(0, .int x0), (1, .int x1), (2, .int x2)] [] h 0 0 (rPi h) (f_X12_isAhead_b2_body h N K2 x0 x1 x2) := by
  unfold f_X12_isAhead_b2_body
  refine a_iload_n dX12_isAhead_2 rfl 0 rfl ?_
  refine a_iload_n dX12_isAhead_3 rfl 2 rfl ?_
  refine a_ishr dX12_isAhead_4 ?_
  refine a_iconst (v := 1) dX12_isAhead_5 (by decide) ?_
  refine a_iand dX12_isAhead_6 ?_
  refine a_iload_n dX12_isAhead_7 rfl 1 rfl ?_
  refine a_iload_n dX12_isAhead_8 rfl 2 rfl ?_
  refine a_ishr dX12_isAhead_9 ?_
  refine a_iconst (v := 1) dX12_isAhead_10 (by decide) ?_
  refine a_iand dX12_isAhead_11 ?_
  refine a_icmp_ne 21 dX12_isAhead_12 (by decide) (fun c1 => ?_) (fun c1 => ?_)
  · refine a_iinc (q := 2) (v := (x2 + 1)) (lc2 := [(2, .int (x2 + 1)), (0, .int x0), (1, .int x1)]) dX12_isAhead_15 rfl rfl (by decide) rfl ?_
    refine a_goto 2 dX12_isAhead_18 (by decide) ?_
    refine a_pick (lc2 := [(0, .int x0), (1, .int x1), (2, .int (x2 + 1))]) [1, 2, 0] rfl ?_
    exact hK2 x0 x1 (x2 + 1)
  · refine a_iload_n dX12_isAhead_21 rfl 0 rfl ?_
    refine a_iload_n dX12_isAhead_22 rfl 2 rfl ?_
    refine a_ishr dX12_isAhead_23 ?_
    refine a_iconst (v := 1) dX12_isAhead_24 (by decide) ?_
    refine a_iand dX12_isAhead_25 ?_
    refine a_iconst (v := 1) dX12_isAhead_26 (by decide) ?_
    refine a_icmp_ne 34 dX12_isAhead_27 (by decide) (fun c2 => ?_) (fun c2 => ?_)
    · refine a_iconst (v := 1) dX12_isAhead_30 (by decide) ?_
      refine a_goto 35 dX12_isAhead_31 (by decide) ?_
      exact a_zret dX12_isAhead_35 rfl (Or.inr rfl) rfl (by decide) (by decide)
    · refine a_iconst (v := 0) dX12_isAhead_34 (by decide) ?_
      exact a_zret dX12_isAhead_35 rfl (Or.inl rfl) rfl (by decide) (by decide)
set_option maxRecDepth 100000 in
set_option maxHeartbeats 4000000 in
theorem t_X12_isAhead_b2 (h : AH) (N : Nat) : ∀ (n : Nat) (x0 : Int32) (x1 : Int32) (x2 : Int32) , AO l g M_X12_isAhead false h 2 [(0, .int x0), (1, .int x1), (2, .int x2)] [] h 0 0 (rPi h) (f_X12_isAhead_b2 h N  n x0 x1 x2) := by
  intro n
  induction n with
  | zero => intro x0 x1 x2; exact a_eq rfl a_none
  | succ n ih => intro x0 x1 x2; exact a_eq rfl (t_X12_isAhead_b2_body h N  (f_X12_isAhead_b2 h N  n) ih x0 x1 x2)
end
set_option maxRecDepth 100000 in
set_option maxHeartbeats 4000000 in
theorem c_X12_isAhead (l : Launch) (g : GG) (h : AH) (N : Nat) (p0 : Int32) (p1 : Int32) : CN l g yX12_isAhead M_X12_isAhead false [.int p0, .int p1] h ((rPi h)) (f_X12_isAhead h N p0 p1) := by
  refine CN.of (by decide) rfl (fun hh => by first | rfl | cases hh) (Nat.le_of_ble_eq_true rfl) ?_
  unfold f_X12_isAhead
  refine a_iconst (v := 0) dX12_isAhead_0 (by decide) ?_
  refine a_istore_n (lc2 := [(2, .int 0), (0, .int p0), (1, .int p1)]) dX12_isAhead_1 rfl (by decide) rfl ?_
  refine a_pick (lc2 := [(0, .int p0), (1, .int p1), (2, .int 0)]) [1, 2, 0] rfl ?_
  exact t_X12_isAhead_b2 h N N p0 p1 0
theorem dX12_best_0 : decode cX12_best 0 = .ok (.iload_n 1, 1) := by decide +kernel
theorem dX12_best_1 : decode cX12_best 1 = .ok (.iconst 0, 1) := by decide +kernel
theorem dX12_best_2 : decode cX12_best 2 = .ok (.iconst 4, 1) := by decide +kernel
theorem dX12_best_3 : decode cX12_best 3 = .ok (.invokestatic 204, 3) := by decide +kernel
theorem dX12_best_6 : decode cX12_best 6 = .ok (.ifCond .eq 20, 3) := by decide +kernel
theorem dX12_best_9 : decode cX12_best 9 = .ok (.iload_n 1, 1) := by decide +kernel
theorem dX12_best_10 : decode cX12_best 10 = .ok (.aload_n 0, 1) := by decide +kernel
theorem dX12_best_11 : decode cX12_best 11 = .ok (.getfield 380, 3) := by decide +kernel
theorem dX12_best_14 : decode cX12_best 14 = .ok (.if_icmp .gt 12, 3) := by decide +kernel
theorem dX12_best_17 : decode cX12_best 17 = .ok (.iload_n 2, 1) := by decide +kernel
theorem dX12_best_18 : decode cX12_best 18 = .ok (.iconst 0, 1) := by decide +kernel
theorem dX12_best_19 : decode cX12_best 19 = .ok (.iconst 4, 1) := by decide +kernel
theorem dX12_best_20 : decode cX12_best 20 = .ok (.invokestatic 204, 3) := by decide +kernel
theorem dX12_best_23 : decode cX12_best 23 = .ok (.ifCond .ne 6, 3) := by decide +kernel
theorem dX12_best_26 : decode cX12_best 26 = .ok (.bipush (-5), 2) := by decide +kernel
theorem dX12_best_28 : decode cX12_best 28 = .ok (.ireturn, 1) := by decide +kernel
theorem dX12_best_29 : decode cX12_best 29 = .ok (.iconst (-1), 1) := by decide +kernel
theorem dX12_best_30 : decode cX12_best 30 = .ok (.istore_n 3, 1) := by decide +kernel
theorem dX12_best_31 : decode cX12_best 31 = .ok (.iconst 0, 1) := by decide +kernel
theorem dX12_best_32 : decode cX12_best 32 = .ok (.istore 4, 2) := by decide +kernel
theorem dX12_best_34 : decode cX12_best 34 = .ok (.iconst 0, 1) := by decide +kernel
theorem dX12_best_35 : decode cX12_best 35 = .ok (.istore 5, 2) := by decide +kernel
theorem dX12_best_37 : decode cX12_best 37 = .ok (.iload 5, 2) := by decide +kernel
theorem dX12_best_39 : decode cX12_best 39 = .ok (.iconst 1, 1) := by decide +kernel
theorem dX12_best_40 : decode cX12_best 40 = .ok (.aload_n 0, 1) := by decide +kernel
theorem dX12_best_41 : decode cX12_best 41 = .ok (.getfield 380, 3) := by decide +kernel
theorem dX12_best_44 : decode cX12_best 44 = .ok (.ishl, 1) := by decide +kernel
theorem dX12_best_45 : decode cX12_best 45 = .ok (.if_icmp .ge 61, 3) := by decide +kernel
theorem dX12_best_48 : decode cX12_best 48 = .ok (.iload 5, 2) := by decide +kernel
theorem dX12_best_50 : decode cX12_best 50 = .ok (.invokestatic 383, 3) := by decide +kernel
theorem dX12_best_53 : decode cX12_best 53 = .ok (.iload_n 1, 1) := by decide +kernel
theorem dX12_best_54 : decode cX12_best 54 = .ok (.if_icmp .ne 46, 3) := by decide +kernel
theorem dX12_best_57 : decode cX12_best 57 = .ok (.aload_n 0, 1) := by decide +kernel
theorem dX12_best_58 : decode cX12_best 58 = .ok (.iload 5, 2) := by decide +kernel
theorem dX12_best_60 : decode cX12_best 60 = .ok (.invokevirtual 386, 3) := by decide +kernel
theorem dX12_best_63 : decode cX12_best 63 = .ok (.istore 6, 2) := by decide +kernel
theorem dX12_best_65 : decode cX12_best 65 = .ok (.iload_n 3, 1) := by decide +kernel
theorem dX12_best_66 : decode cX12_best 66 = .ok (.iconst (-1), 1) := by decide +kernel
theorem dX12_best_67 : decode cX12_best 67 = .ok (.if_icmp .eq 26, 3) := by decide +kernel
theorem dX12_best_70 : decode cX12_best 70 = .ok (.iload 6, 2) := by decide +kernel
theorem dX12_best_72 : decode cX12_best 72 = .ok (.iload 4, 2) := by decide +kernel
theorem dX12_best_74 : decode cX12_best 74 = .ok (.if_icmp .lt 19, 3) := by decide +kernel
theorem dX12_best_77 : decode cX12_best 77 = .ok (.iload 6, 2) := by decide +kernel
theorem dX12_best_79 : decode cX12_best 79 = .ok (.iload 4, 2) := by decide +kernel
theorem dX12_best_81 : decode cX12_best 81 = .ok (.if_icmp .ne 19, 3) := by decide +kernel
theorem dX12_best_84 : decode cX12_best 84 = .ok (.iload 5, 2) := by decide +kernel
theorem dX12_best_86 : decode cX12_best 86 = .ok (.iload_n 3, 1) := by decide +kernel
theorem dX12_best_87 : decode cX12_best 87 = .ok (.invokestatic 389, 3) := by decide +kernel
theorem dX12_best_90 : decode cX12_best 90 = .ok (.ifCond .eq 10, 3) := by decide +kernel
theorem dX12_best_93 : decode cX12_best 93 = .ok (.iload 5, 2) := by decide +kernel
theorem dX12_best_95 : decode cX12_best 95 = .ok (.istore_n 3, 1) := by decide +kernel
theorem dX12_best_96 : decode cX12_best 96 = .ok (.iload 6, 2) := by decide +kernel
theorem dX12_best_98 : decode cX12_best 98 = .ok (.istore 4, 2) := by decide +kernel
theorem dX12_best_100 : decode cX12_best 100 = .ok (.iinc 5 1, 3) := by decide +kernel
theorem dX12_best_103 : decode cX12_best 103 = .ok (.goto (-66), 3) := by decide +kernel
theorem dX12_best_106 : decode cX12_best 106 = .ok (.iload_n 2, 1) := by decide +kernel
theorem dX12_best_107 : decode cX12_best 107 = .ok (.ifCond .ne 6, 3) := by decide +kernel
theorem dX12_best_110 : decode cX12_best 110 = .ok (.iload 4, 2) := by decide +kernel
theorem dX12_best_112 : decode cX12_best 112 = .ok (.ireturn, 1) := by decide +kernel
theorem dX12_best_113 : decode cX12_best 113 = .ok (.iload_n 2, 1) := by decide +kernel
theorem dX12_best_114 : decode cX12_best 114 = .ok (.istore 5, 2) := by decide +kernel
theorem dX12_best_116 : decode cX12_best 116 = .ok (.iconst 0, 1) := by decide +kernel
theorem dX12_best_117 : decode cX12_best 117 = .ok (.istore 6, 2) := by decide +kernel
theorem dX12_best_119 : decode cX12_best 119 = .ok (.iload 6, 2) := by decide +kernel
theorem dX12_best_121 : decode cX12_best 121 = .ok (.aload_n 0, 1) := by decide +kernel
theorem dX12_best_122 : decode cX12_best 122 = .ok (.getfield 380, 3) := by decide +kernel
theorem dX12_best_125 : decode cX12_best 125 = .ok (.if_icmp .ge 28, 3) := by decide +kernel
theorem dX12_best_128 : decode cX12_best 128 = .ok (.iload 5, 2) := by decide +kernel
theorem dX12_best_130 : decode cX12_best 130 = .ok (.iload_n 3, 1) := by decide +kernel
theorem dX12_best_131 : decode cX12_best 131 = .ok (.iload 6, 2) := by decide +kernel
theorem dX12_best_133 : decode cX12_best 133 = .ok (.ishr, 1) := by decide +kernel
theorem dX12_best_134 : decode cX12_best 134 = .ok (.iconst 1, 1) := by decide +kernel
theorem dX12_best_135 : decode cX12_best 135 = .ok (.iand, 1) := by decide +kernel
theorem dX12_best_136 : decode cX12_best 136 = .ok (.isub, 1) := by decide +kernel
theorem dX12_best_137 : decode cX12_best 137 = .ok (.istore 5, 2) := by decide +kernel
theorem dX12_best_139 : decode cX12_best 139 = .ok (.iload 5, 2) := by decide +kernel
theorem dX12_best_141 : decode cX12_best 141 = .ok (.ifCond .ne 6, 3) := by decide +kernel
theorem dX12_best_144 : decode cX12_best 144 = .ok (.iload 6, 2) := by decide +kernel
theorem dX12_best_146 : decode cX12_best 146 = .ok (.ireturn, 1) := by decide +kernel
theorem dX12_best_147 : decode cX12_best 147 = .ok (.iinc 6 1, 3) := by decide +kernel
theorem dX12_best_150 : decode cX12_best 150 = .ok (.goto (-31), 3) := by decide +kernel
theorem dX12_best_153 : decode cX12_best 153 = .ok (.iconst (-1), 1) := by decide +kernel
theorem dX12_best_154 : decode cX12_best 154 = .ok (.ireturn, 1) := by decide +kernel
abbrev M_X12_best : MI := (RX12, cX12_best, 7, (some .int), ({ frames := 3, cells := 0, slots := 0, locals := 70 } : Room), 0, 0, false)
def f_X12_best_b100 (h : AH) (N : Nat) (K37 : Nat → Int32 → Int32 → Int32 → Int32 → Int32 → Option Int32) (x0 : Nat) (x1 : Int32) (x2 : Int32) (x3 : Int32) (x4 : Int32) (x5 : Int32) : Option Int32 := K37 x0 x1 x2 x3 x4 (x5 + 1)
def f_X12_best_b93 (h : AH) (N : Nat) (K37 : Nat → Int32 → Int32 → Int32 → Int32 → Int32 → Option Int32) (x0 : Nat) (x1 : Int32) (x2 : Int32) (x5 : Int32) (x6 : Int32) : Option Int32 := f_X12_best_b100 h N K37 x0 x1 x2 x5 x6 x5
def f_X12_best_b119_body (h : AH) (N : Nat) (K119 : Nat → Int32 → Int32 → Int32 → Option Int32) (x0 : Nat) (x3 : Int32) (x5 : Int32) (x6 : Int32) : Option Int32 := (xgi h x0 13 46).bind fun v18 => (if v18 ≤ x6 then some (-1) else (if (x5 - ((x3 >>> (x6 &&& 31)) &&& 1)) = 0 then some x6 else K119 x0 x3 (x5 - ((x3 >>> (x6 &&& 31)) &&& 1)) (x6 + 1)))
def f_X12_best_b119 (h : AH) (N : Nat) : Nat → Nat → Int32 → Int32 → Int32 → Option Int32
  | 0, _, _, _, _ => none
  | n + 1, x0, x3, x5, x6 => f_X12_best_b119_body h N  (f_X12_best_b119 h N  n) x0 x3 x5 x6
def f_X12_best_b37_body (h : AH) (N : Nat) (K37 : Nat → Int32 → Int32 → Int32 → Int32 → Int32 → Option Int32) (x0 : Nat) (x1 : Int32) (x2 : Int32) (x3 : Int32) (x4 : Int32) (x5 : Int32) : Option Int32 := (xgi h x0 13 46).bind fun v7 => (if (1 <<< (v7 &&& 31)) ≤ x5 then (if x2 = 0 then some x4 else f_X12_best_b119 h N N x0 x3 x2 0) else (f_X12_bits h N x5).bind fun v10 => (if v10 = x1 then (f_X12_far h N x0 x5).bind fun v12 => (if x3 = (-1) then f_X12_best_b93 h N K37 x0 x1 x2 x5 v12 else (if v12 < x4 then f_X12_best_b93 h N K37 x0 x1 x2 x5 v12 else (if v12 = x4 then (f_X12_isAhead h N x5 x3).bind fun v16 => (if v16 = 0 then f_X12_best_b100 h N K37 x0 x1 x2 x3 x4 x5 else f_X12_best_b93 h N K37 x0 x1 x2 x5 v12) else f_X12_best_b100 h N K37 x0 x1 x2 x3 x4 x5))) else f_X12_best_b100 h N K37 x0 x1 x2 x3 x4 x5))
def f_X12_best_b37 (h : AH) (N : Nat) : Nat → Nat → Int32 → Int32 → Int32 → Int32 → Int32 → Option Int32
  | 0, _, _, _, _, _, _ => none
  | n + 1, x0, x1, x2, x3, x4, x5 => f_X12_best_b37_body h N  (f_X12_best_b37 h N  n) x0 x1 x2 x3 x4 x5
def f_X12_best (h : AH) (N : Nat) (p0 : Nat) (p1 : Int32) (p2 : Int32) : Option Int32 := if kd h p0 = 13 + 1 then (f_X12_in h p1 0 4).bind fun v1 => (if v1 = 0 then some (-5) else (xgi h p0 13 46).bind fun v3 => (if v3 < p1 then some (-5) else (f_X12_in h p2 0 4).bind fun v5 => (if v5 = 0 then some (-5) else f_X12_best_b37 h N N p0 p1 p2 (-1) 0 0))) else none
theorem g_X12_best {h : AH} {N : Nat} {p0 : Nat} {p1 : Int32} {p2 : Int32} {x : Int32} (e : f_X12_best h N p0 p1 p2 = some x) : kd h p0 = 13 + 1 := by
  unfold f_X12_best at e
  by_cases hk : kd h p0 = 13 + 1
  · exact hk
  · rw [if_neg hk] at e
    cases e
theorem km_X12_best : KM yX12_best M_X12_best 2 := ⟨in_tb 1691 (by decide +kernel) rfl, in_tb 9 (by decide +kernel) rfl, by decide +kernel, rfl, rfl⟩
theorem hm_X12_best : M_X12_best.2.2.2.2.2.1 = 0 ∧ M_X12_best.2.2.2.2.2.2.1 = 0 := ⟨rfl, rfl⟩
section
variable {l : Launch} {g : GG}
set_option maxRecDepth 100000 in
set_option maxHeartbeats 4000000 in
theorem t_X12_best_b100 (h : AH) (N : Nat) (K37 : Nat → Int32 → Int32 → Int32 → Int32 → Int32 → Option Int32) (hK37 : ∀ (z0 : Nat) (z1 : Int32) (z2 : Int32) (z3 : Int32) (z4 : Int32) (z5 : Int32), AO l g M_X12_best false h 37 [(0, .ref z0), (1, .int z1), (2, .int z2), (3, .int z3), (4, .int z4), (5, .int z5)] [] h 0 0 (rPi h) (K37 z0 z1 z2 z3 z4 z5)) (x0 : Nat) (x1 : Int32) (x2 : Int32) (x3 : Int32) (x4 : Int32) (x5 : Int32) : AO l g M_X12_best false h 100 [(0, .ref x0), (1, .int x1), (2, .int x2), (3, .int x3), (4, .int x4), (5, .int x5)] [] h 0 0 (rPi h) (f_X12_best_b100 h N K37 x0 x1 x2 x3 x4 x5) := by
  unfold f_X12_best_b100
  refine a_iinc (q := 5) (v := (x5 + 1)) (lc2 := [(5, .int (x5 + 1)), (0, .ref x0), (1, .int x1), (2, .int x2), (3, .int x3), (4, .int x4)]) dX12_best_100 rfl rfl (by decide) rfl ?_
  refine a_goto 37 dX12_best_103 (by decide) ?_
  refine a_pick (lc2 := [(0, .ref x0), (1, .int x1), (2, .int x2), (3, .int x3), (4, .int x4), (5, .int (x5 + 1))]) [1, 2, 3, 4, 5, 0] rfl ?_
  exact hK37 x0 x1 x2 x3 x4 (x5 + 1)
set_option maxRecDepth 100000 in
set_option maxHeartbeats 4000000 in
theorem t_X12_best_b93 (h : AH) (N : Nat) (K37 : Nat → Int32 → Int32 → Int32 → Int32 → Int32 → Option Int32) (hK37 : ∀ (z0 : Nat) (z1 : Int32) (z2 : Int32) (z3 : Int32) (z4 : Int32) (z5 : Int32), AO l g M_X12_best false h 37 [(0, .ref z0), (1, .int z1), (2, .int z2), (3, .int z3), (4, .int z4), (5, .int z5)] [] h 0 0 (rPi h) (K37 z0 z1 z2 z3 z4 z5)) (x0 : Nat) (x1 : Int32) (x2 : Int32) (x5 : Int32) (x6 : Int32) : AO l g M_X12_best false h 93 [(0, .ref x0), (1, .int x1), (2, .int x2), (5, .int x5), (6, .int x6)] [] h 0 0 (rPi h) (f_X12_best_b93 h N K37 x0 x1 x2 x5 x6) := by
  unfold f_X12_best_b93
  refine a_iload dX12_best_93 3 rfl ?_
  refine a_istore_n (lc2 := [(3, .int x5), (0, .ref x0), (1, .int x1), (2, .int x2), (5, .int x5), (6, .int x6)]) dX12_best_95 rfl (by decide) rfl ?_
  refine a_iload dX12_best_96 5 rfl ?_
  refine a_istore (lc2 := [(4, .int x6), (3, .int x5), (0, .ref x0), (1, .int x1), (2, .int x2), (5, .int x5), (6, .int x6)]) dX12_best_98 (by decide) rfl ?_
  refine a_pick (lc2 := [(0, .ref x0), (1, .int x1), (2, .int x2), (3, .int x5), (4, .int x6), (5, .int x5)]) [2, 3, 4, 1, 0, 5] rfl ?_
  exact t_X12_best_b100 h N K37 hK37 x0 x1 x2 x5 x6 x5
set_option maxRecDepth 100000 in
set_option maxHeartbeats 4000000 in
theorem t_X12_best_b119_body (h : AH) (N : Nat) (K119 : Nat → Int32 → Int32 → Int32 → Option Int32) (hK119 : ∀ (z0 : Nat) (z1 : Int32) (z2 : Int32) (z3 : Int32), AO l g M_X12_best false h 119 [(0, .ref z0), (3, .int z1), (5, .int z2), (6, .int z3)] [] h 0 0 (rPi h) (K119 z0 z1 z2 z3)) (x0 : Nat) (x3 : Int32) (x5 : Int32) (x6 : Int32) : AO l g M_X12_best false h 119 [(0, .ref x0), (3, .int x3), (5, .int x5), (6, .int x6)] [] h 0 0 (rPi h) (f_X12_best_b119_body h N K119 x0 x3 x5 x6) := by
  unfold f_X12_best_b119_body
  refine a_iload dX12_best_119 3 rfl ?_
  refine a_aload_n dX12_best_121 rfl 0 rfl ?_
  refine a_geti kc13 46 dX12_best_122 (by decide) rfl w_fieldLink_RainCoverModel_380 (fun v18 => ?_)
  refine a_icmp_ge 153 dX12_best_125 (by decide) (fun c19 => ?_) (fun c19 => ?_)
  · refine a_iconst (v := (-1)) dX12_best_153 (by decide) ?_
    exact a_iret dX12_best_154 rfl rfl (by decide) (by decide)
  · refine a_iload dX12_best_128 2 rfl ?_
    refine a_iload_n dX12_best_130 rfl 1 rfl ?_
    refine a_iload dX12_best_131 3 rfl ?_
    refine a_ishr dX12_best_133 ?_
    refine a_iconst (v := 1) dX12_best_134 (by decide) ?_
    refine a_iand dX12_best_135 ?_
    refine a_isub dX12_best_136 ?_
    refine a_istore (lc2 := [(5, .int (x5 - ((x3 >>> (x6 &&& 31)) &&& 1))), (0, .ref x0), (3, .int x3), (6, .int x6)]) dX12_best_137 (by decide) rfl ?_
    refine a_iload dX12_best_139 0 rfl ?_
    refine a_if_ne 147 dX12_best_141 (by decide) (fun c20 => ?_) (fun c20 => ?_)
    · refine a_iload dX12_best_144 3 rfl ?_
      exact a_iret dX12_best_146 rfl rfl (by decide) (by decide)
    · refine a_iinc (q := 3) (v := (x6 + 1)) (lc2 := [(6, .int (x6 + 1)), (5, .int (x5 - ((x3 >>> (x6 &&& 31)) &&& 1))), (0, .ref x0), (3, .int x3)]) dX12_best_147 rfl rfl (by decide) rfl ?_
      refine a_goto 119 dX12_best_150 (by decide) ?_
      refine a_pick (lc2 := [(0, .ref x0), (3, .int x3), (5, .int (x5 - ((x3 >>> (x6 &&& 31)) &&& 1))), (6, .int (x6 + 1))]) [2, 3, 1, 0] rfl ?_
      exact hK119 x0 x3 (x5 - ((x3 >>> (x6 &&& 31)) &&& 1)) (x6 + 1)
set_option maxRecDepth 100000 in
set_option maxHeartbeats 4000000 in
theorem t_X12_best_b119 (h : AH) (N : Nat) : ∀ (n : Nat) (x0 : Nat) (x3 : Int32) (x5 : Int32) (x6 : Int32) , AO l g M_X12_best false h 119 [(0, .ref x0), (3, .int x3), (5, .int x5), (6, .int x6)] [] h 0 0 (rPi h) (f_X12_best_b119 h N  n x0 x3 x5 x6) := by
  intro n
  induction n with
  | zero => intro x0 x3 x5 x6; exact a_eq rfl a_none
  | succ n ih => intro x0 x3 x5 x6; exact a_eq rfl (t_X12_best_b119_body h N  (f_X12_best_b119 h N  n) ih x0 x3 x5 x6)
set_option maxRecDepth 100000 in
set_option maxHeartbeats 4000000 in
theorem t_X12_best_b37_body (h : AH) (N : Nat) (K37 : Nat → Int32 → Int32 → Int32 → Int32 → Int32 → Option Int32) (hK37 : ∀ (z0 : Nat) (z1 : Int32) (z2 : Int32) (z3 : Int32) (z4 : Int32) (z5 : Int32), AO l g M_X12_best false h 37 [(0, .ref z0), (1, .int z1), (2, .int z2), (3, .int z3), (4, .int z4), (5, .int z5)] [] h 0 0 (rPi h) (K37 z0 z1 z2 z3 z4 z5)) (x0 : Nat) (x1 : Int32) (x2 : Int32) (x3 : Int32) (x4 : Int32) (x5 : Int32) : AO l g M_X12_best false h 37 [(0, .ref x0), (1, .int x1), (2, .int x2), (3, .int x3), (4, .int x4), (5, .int x5)] [] h 0 0 (rPi h) (f_X12_best_b37_body h N K37 x0 x1 x2 x3 x4 x5) := by
  unfold f_X12_best_b37_body
  refine a_iload dX12_best_37 5 rfl ?_
  refine a_iconst (v := 1) dX12_best_39 (by decide) ?_
  refine a_aload_n dX12_best_40 rfl 0 rfl ?_
  refine a_geti kc13 46 dX12_best_41 (by decide) rfl w_fieldLink_RainCoverModel_380 (fun v7 => ?_)
  refine a_ishl dX12_best_44 ?_
  refine a_icmp_ge 106 dX12_best_45 (by decide) (fun c8 => ?_) (fun c8 => ?_)
  · refine a_iload_n dX12_best_106 rfl 2 rfl ?_
    refine a_if_ne 113 dX12_best_107 (by decide) (fun c9 => ?_) (fun c9 => ?_)
    · refine a_iload dX12_best_110 4 rfl ?_
      exact a_iret dX12_best_112 rfl rfl (by decide) (by decide)
    · refine a_iload_n dX12_best_113 rfl 2 rfl ?_
      refine a_istore (lc2 := [(5, .int x2), (0, .ref x0), (1, .int x1), (2, .int x2), (3, .int x3), (4, .int x4)]) dX12_best_114 (by decide) rfl ?_
      refine a_iconst (v := 0) dX12_best_116 (by decide) ?_
      refine a_istore (lc2 := [(6, .int 0), (5, .int x2), (0, .ref x0), (1, .int x1), (2, .int x2), (3, .int x3), (4, .int x4)]) dX12_best_117 (by decide) rfl ?_
      refine a_pick (lc2 := [(0, .ref x0), (3, .int x3), (5, .int x2), (6, .int 0)]) [2, 5, 1, 0] rfl ?_
      exact t_X12_best_b119 h N N x0 x3 x2 0
  · refine a_iload dX12_best_48 5 rfl ?_
    refine a_cS_Pi (as := [.int x5]) (st := []) dX12_best_50 (c_X12_bits l g h N x5) rfl km_X12_bits (hm_X12_bits) w_methodLink_RainCoverModel_383 w_static_RainCoverModel_bits__I_I ⟨⟨by decide, by decide⟩, ⟨by decide, by decide⟩⟩ (Nat.le_of_ble_eq_true rfl) (fun v10 => ?_)
    refine a_iload_n dX12_best_53 rfl 1 rfl ?_
    refine a_icmp_ne 100 dX12_best_54 (by decide) (fun c11 => ?_) (fun c11 => ?_)
    · refine a_aload_n dX12_best_57 rfl 0 rfl ?_
      refine a_iload dX12_best_58 5 rfl ?_
      refine a_cV_Pi (r := x0) (ci := 13) (as := [.int x5]) (st := []) dX12_best_60 (c_X12_far l g h N x0 x5) rfl km_X12_far (hm_X12_far) rfl (by decide) rfl (fun _ ee => g_X12_far ee) w_methodLink_RainCoverModel_386 w_instanceMethod_RainCoverModel_far__I_I w_selects_RainCoverModel_RainCoverModel_far__I_I_RainCoverModel_far__I_I ⟨⟨by decide, by decide⟩, ⟨by decide, by decide⟩⟩ (Nat.le_of_ble_eq_true rfl) (fun v12 => ?_)
      refine a_istore (lc2 := [(6, .int v12), (0, .ref x0), (1, .int x1), (2, .int x2), (3, .int x3), (4, .int x4), (5, .int x5)]) dX12_best_63 (by decide) rfl ?_
      refine a_iload_n dX12_best_65 rfl 4 rfl ?_
      refine a_iconst (v := (-1)) dX12_best_66 (by decide) ?_
      refine a_icmp_eq 93 dX12_best_67 (by decide) (fun c13 => ?_) (fun c13 => ?_)
      · refine a_pick (lc2 := [(0, .ref x0), (1, .int x1), (2, .int x2), (5, .int x5), (6, .int v12)]) [1, 2, 3, 6, 0] rfl ?_
        exact t_X12_best_b93 h N K37 hK37 x0 x1 x2 x5 v12
      · refine a_iload dX12_best_70 0 rfl ?_
        refine a_iload dX12_best_72 5 rfl ?_
        refine a_icmp_lt 93 dX12_best_74 (by decide) (fun c14 => ?_) (fun c14 => ?_)
        · refine a_pick (lc2 := [(0, .ref x0), (1, .int x1), (2, .int x2), (5, .int x5), (6, .int v12)]) [1, 2, 3, 6, 0] rfl ?_
          exact t_X12_best_b93 h N K37 hK37 x0 x1 x2 x5 v12
        · refine a_iload dX12_best_77 0 rfl ?_
          refine a_iload dX12_best_79 5 rfl ?_
          refine a_icmp_ne 100 dX12_best_81 (by decide) (fun c15 => ?_) (fun c15 => ?_)
          · refine a_iload dX12_best_84 6 rfl ?_
            refine a_iload_n dX12_best_86 rfl 4 rfl ?_
            refine a_cS_Pi (as := [.int x5, .int x3]) (st := []) dX12_best_87 (c_X12_isAhead l g h N x5 x3) rfl km_X12_isAhead (hm_X12_isAhead) w_methodLink_RainCoverModel_389 w_static_RainCoverModel_isAhead__II_Z ⟨⟨by decide, by decide⟩, ⟨by decide, by decide⟩⟩ (Nat.le_of_ble_eq_true rfl) (fun v16 => ?_)
            refine a_if_eq 100 dX12_best_90 (by decide) (fun c17 => ?_) (fun c17 => ?_)
            · refine a_pick (lc2 := [(0, .ref x0), (1, .int x1), (2, .int x2), (3, .int x3), (4, .int x4), (5, .int x5)]) [1, 2, 3, 4, 5, 6] rfl ?_
              exact t_X12_best_b100 h N K37 hK37 x0 x1 x2 x3 x4 x5
            · refine a_pick (lc2 := [(0, .ref x0), (1, .int x1), (2, .int x2), (5, .int x5), (6, .int v12)]) [1, 2, 3, 6, 0] rfl ?_
              exact t_X12_best_b93 h N K37 hK37 x0 x1 x2 x5 v12
          · refine a_pick (lc2 := [(0, .ref x0), (1, .int x1), (2, .int x2), (3, .int x3), (4, .int x4), (5, .int x5)]) [1, 2, 3, 4, 5, 6] rfl ?_
            exact t_X12_best_b100 h N K37 hK37 x0 x1 x2 x3 x4 x5
    · exact t_X12_best_b100 h N K37 hK37 x0 x1 x2 x3 x4 x5
set_option maxRecDepth 100000 in
set_option maxHeartbeats 4000000 in
theorem t_X12_best_b37 (h : AH) (N : Nat) : ∀ (n : Nat) (x0 : Nat) (x1 : Int32) (x2 : Int32) (x3 : Int32) (x4 : Int32) (x5 : Int32) , AO l g M_X12_best false h 37 [(0, .ref x0), (1, .int x1), (2, .int x2), (3, .int x3), (4, .int x4), (5, .int x5)] [] h 0 0 (rPi h) (f_X12_best_b37 h N  n x0 x1 x2 x3 x4 x5) := by
  intro n
  induction n with
  | zero => intro x0 x1 x2 x3 x4 x5; exact a_eq rfl a_none
  | succ n ih => intro x0 x1 x2 x3 x4 x5; exact a_eq rfl (t_X12_best_b37_body h N  (f_X12_best_b37 h N  n) ih x0 x1 x2 x3 x4 x5)
end
set_option maxRecDepth 100000 in
set_option maxHeartbeats 4000000 in
theorem c_X12_best (l : Launch) (g : GG) (h : AH) (N : Nat) (p0 : Nat) (p1 : Int32) (p2 : Int32) : CN l g yX12_best M_X12_best false [.ref p0, .int p1, .int p2] h ((rPi h)) (f_X12_best h N p0 p1 p2) := by
  refine CN.of (by decide) rfl (fun hh => by first | rfl | cases hh) (Nat.le_of_ble_eq_true rfl) ?_
  unfold f_X12_best
  refine a_gd (fun hkd => ?_)
  refine a_iload_n dX12_best_0 rfl 1 rfl ?_
  refine a_iconst (v := 0) dX12_best_1 (by decide) ?_
  refine a_iconst (v := 4) dX12_best_2 (by decide) ?_
  refine a_cS_Pi (as := [.int p1, .int 0, .int 4]) (st := []) dX12_best_3 (c_X12_in l g h p1 0 4) rfl km_X12_in (hm_X12_in) w_methodLink_RainCoverModel_204 w_static_RainCoverModel_in__III_Z ⟨⟨by decide, by decide⟩, ⟨by decide, by decide⟩⟩ (Nat.le_of_ble_eq_true rfl) (fun v1 => ?_)
  refine a_if_eq 26 dX12_best_6 (by decide) (fun c2 => ?_) (fun c2 => ?_)
  · refine a_bipush (v := (-5)) dX12_best_26 (by decide) ?_
    exact a_iret dX12_best_28 rfl rfl (by decide) (by decide)
  · refine a_iload_n dX12_best_9 rfl 1 rfl ?_
    refine a_aload_n dX12_best_10 rfl 0 rfl ?_
    refine a_geti kc13 46 dX12_best_11 (by decide) rfl w_fieldLink_RainCoverModel_380 (fun v3 => ?_)
    refine a_icmp_gt 26 dX12_best_14 (by decide) (fun c4 => ?_) (fun c4 => ?_)
    · refine a_bipush (v := (-5)) dX12_best_26 (by decide) ?_
      exact a_iret dX12_best_28 rfl rfl (by decide) (by decide)
    · refine a_iload_n dX12_best_17 rfl 2 rfl ?_
      refine a_iconst (v := 0) dX12_best_18 (by decide) ?_
      refine a_iconst (v := 4) dX12_best_19 (by decide) ?_
      refine a_cS_Pi (as := [.int p2, .int 0, .int 4]) (st := []) dX12_best_20 (c_X12_in l g h p2 0 4) rfl km_X12_in (hm_X12_in) w_methodLink_RainCoverModel_204 w_static_RainCoverModel_in__III_Z ⟨⟨by decide, by decide⟩, ⟨by decide, by decide⟩⟩ (Nat.le_of_ble_eq_true rfl) (fun v5 => ?_)
      refine a_if_ne 29 dX12_best_23 (by decide) (fun c6 => ?_) (fun c6 => ?_)
      · refine a_bipush (v := (-5)) dX12_best_26 (by decide) ?_
        exact a_iret dX12_best_28 rfl rfl (by decide) (by decide)
      · refine a_iconst (v := (-1)) dX12_best_29 (by decide) ?_
        refine a_istore_n (lc2 := [(3, .int (-1)), (0, .ref p0), (1, .int p1), (2, .int p2)]) dX12_best_30 rfl (by decide) rfl ?_
        refine a_iconst (v := 0) dX12_best_31 (by decide) ?_
        refine a_istore (lc2 := [(4, .int 0), (3, .int (-1)), (0, .ref p0), (1, .int p1), (2, .int p2)]) dX12_best_32 (by decide) rfl ?_
        refine a_iconst (v := 0) dX12_best_34 (by decide) ?_
        refine a_istore (lc2 := [(5, .int 0), (4, .int 0), (3, .int (-1)), (0, .ref p0), (1, .int p1), (2, .int p2)]) dX12_best_35 (by decide) rfl ?_
        refine a_pick (lc2 := [(0, .ref p0), (1, .int p1), (2, .int p2), (3, .int (-1)), (4, .int 0), (5, .int 0)]) [3, 4, 5, 2, 1, 0] rfl ?_
        exact t_X12_best_b37 h N N p0 p1 p2 (-1) 0 0
theorem dX12_isKnown_0 : decode cX12_isKnown 0 = .ok (.iconst 0, 1) := by decide +kernel
theorem dX12_isKnown_1 : decode cX12_isKnown 1 = .ok (.istore_n 3, 1) := by decide +kernel
theorem dX12_isKnown_2 : decode cX12_isKnown 2 = .ok (.iconst 0, 1) := by decide +kernel
theorem dX12_isKnown_3 : decode cX12_isKnown 3 = .ok (.istore 4, 2) := by decide +kernel
theorem dX12_isKnown_5 : decode cX12_isKnown 5 = .ok (.iload 4, 2) := by decide +kernel
theorem dX12_isKnown_7 : decode cX12_isKnown 7 = .ok (.bipush 12, 2) := by decide +kernel
theorem dX12_isKnown_9 : decode cX12_isKnown 9 = .ok (.if_icmp .ge 30, 3) := by decide +kernel
theorem dX12_isKnown_12 : decode cX12_isKnown 12 = .ok (.iload_n 3, 1) := by decide +kernel
theorem dX12_isKnown_13 : decode cX12_isKnown 13 = .ok (.aload_n 0, 1) := by decide +kernel
theorem dX12_isKnown_14 : decode cX12_isKnown 14 = .ok (.iconst 0, 1) := by decide +kernel
theorem dX12_isKnown_15 : decode cX12_isKnown 15 = .ok (.iload_n 1, 1) := by decide +kernel
theorem dX12_isKnown_16 : decode cX12_isKnown 16 = .ok (.iload_n 2, 1) := by decide +kernel
theorem dX12_isKnown_17 : decode cX12_isKnown 17 = .ok (.iload 4, 2) := by decide +kernel
theorem dX12_isKnown_19 : decode cX12_isKnown 19 = .ok (.invokevirtual 253, 3) := by decide +kernel
theorem dX12_isKnown_22 : decode cX12_isKnown 22 = .ok (.iconst (-1), 1) := by decide +kernel
theorem dX12_isKnown_23 : decode cX12_isKnown 23 = .ok (.if_icmp .eq 7, 3) := by decide +kernel
theorem dX12_isKnown_26 : decode cX12_isKnown 26 = .ok (.iconst 1, 1) := by decide +kernel
theorem dX12_isKnown_27 : decode cX12_isKnown 27 = .ok (.goto 4, 3) := by decide +kernel
theorem dX12_isKnown_30 : decode cX12_isKnown 30 = .ok (.iconst 0, 1) := by decide +kernel
theorem dX12_isKnown_31 : decode cX12_isKnown 31 = .ok (.iadd, 1) := by decide +kernel
theorem dX12_isKnown_32 : decode cX12_isKnown 32 = .ok (.istore_n 3, 1) := by decide +kernel
theorem dX12_isKnown_33 : decode cX12_isKnown 33 = .ok (.iinc 4 1, 3) := by decide +kernel
theorem dX12_isKnown_36 : decode cX12_isKnown 36 = .ok (.goto (-31), 3) := by decide +kernel
theorem dX12_isKnown_39 : decode cX12_isKnown 39 = .ok (.iload_n 3, 1) := by decide +kernel
theorem dX12_isKnown_40 : decode cX12_isKnown 40 = .ok (.bipush 6, 2) := by decide +kernel
theorem dX12_isKnown_42 : decode cX12_isKnown 42 = .ok (.if_icmp .lt 7, 3) := by decide +kernel
theorem dX12_isKnown_45 : decode cX12_isKnown 45 = .ok (.iconst 1, 1) := by decide +kernel
theorem dX12_isKnown_46 : decode cX12_isKnown 46 = .ok (.goto 4, 3) := by decide +kernel
theorem dX12_isKnown_49 : decode cX12_isKnown 49 = .ok (.iconst 0, 1) := by decide +kernel
theorem dX12_isKnown_50 : decode cX12_isKnown 50 = .ok (.ireturn, 1) := by decide +kernel
abbrev M_X12_isKnown : MI := (RX12, cX12_isKnown, 5, (some .boolean), ({ frames := 2, cells := 0, slots := 0, locals := 46 } : Room), 0, 0, false)
def f_X12_isKnown_b31 (h : AH) (N : Nat) (K5 : Nat → Int32 → Int32 → Int32 → Int32 → Option Int32) (x0 : Nat) (x1 : Int32) (x2 : Int32) (x4 : Int32) (s4 : Int32) (s5 : Int32) : Option Int32 := K5 x0 x1 x2 (s5 + s4) (x4 + 1)
def f_X12_isKnown_b5_body (h : AH) (N : Nat) (K5 : Nat → Int32 → Int32 → Int32 → Int32 → Option Int32) (x0 : Nat) (x1 : Int32) (x2 : Int32) (x3 : Int32) (x4 : Int32) : Option Int32 := (if 12 ≤ x4 then (if x3 < 6 then some 0 else some 1) else (f_X12_rainOf h x0 0 x1 x2 x4).bind fun v3 => (if v3 = (-1) then f_X12_isKnown_b31 h N K5 x0 x1 x2 x4 0 x3 else f_X12_isKnown_b31 h N K5 x0 x1 x2 x4 1 x3))
def f_X12_isKnown_b5 (h : AH) (N : Nat) : Nat → Nat → Int32 → Int32 → Int32 → Int32 → Option Int32
  | 0, _, _, _, _, _ => none
  | n + 1, x0, x1, x2, x3, x4 => f_X12_isKnown_b5_body h N  (f_X12_isKnown_b5 h N  n) x0 x1 x2 x3 x4
def f_X12_isKnown (h : AH) (N : Nat) (p0 : Nat) (p1 : Int32) (p2 : Int32) : Option Int32 := if kd h p0 = 13 + 1 then f_X12_isKnown_b5 h N N p0 p1 p2 0 0 else none
theorem g_X12_isKnown {h : AH} {N : Nat} {p0 : Nat} {p1 : Int32} {p2 : Int32} {x : Int32} (e : f_X12_isKnown h N p0 p1 p2 = some x) : kd h p0 = 13 + 1 := by
  unfold f_X12_isKnown at e
  by_cases hk : kd h p0 = 13 + 1
  · exact hk
  · rw [if_neg hk] at e
    cases e
theorem km_X12_isKnown : KM yX12_isKnown M_X12_isKnown 2 := ⟨in_tb 1717 (by decide +kernel) rfl, in_tb 9 (by decide +kernel) rfl, by decide +kernel, rfl, rfl⟩
theorem hm_X12_isKnown : M_X12_isKnown.2.2.2.2.2.1 = 0 ∧ M_X12_isKnown.2.2.2.2.2.2.1 = 0 := ⟨rfl, rfl⟩
section
variable {l : Launch} {g : GG}
set_option maxRecDepth 100000 in
set_option maxHeartbeats 4000000 in
theorem t_X12_isKnown_b31 (h : AH) (N : Nat) (K5 : Nat → Int32 → Int32 → Int32 → Int32 → Option Int32) (hK5 : ∀ (z0 : Nat) (z1 : Int32) (z2 : Int32) (z3 : Int32) (z4 : Int32), AO l g M_X12_isKnown false h 5 [(0, .ref z0), (1, .int z1), (2, .int z2), (3, .int z3), (4, .int z4)] [] h 0 0 (rPi h) (K5 z0 z1 z2 z3 z4)) (x0 : Nat) (x1 : Int32) (x2 : Int32) (x4 : Int32) (s4 : Int32) (s5 : Int32) : AO l g M_X12_isKnown false h 31 [(0, .ref x0), (1, .int x1), (2, .int x2), (4, .int x4)] [.int s4, .int s5] h 0 0 (rPi h) (f_X12_isKnown_b31 h N K5 x0 x1 x2 x4 s4 s5) := by
  unfold f_X12_isKnown_b31
  refine a_iadd dX12_isKnown_31 ?_
  refine a_istore_n (lc2 := [(3, .int (s5 + s4)), (0, .ref x0), (1, .int x1), (2, .int x2), (4, .int x4)]) dX12_isKnown_32 rfl (by decide) rfl ?_
  refine a_iinc (q := 4) (v := (x4 + 1)) (lc2 := [(4, .int (x4 + 1)), (3, .int (s5 + s4)), (0, .ref x0), (1, .int x1), (2, .int x2)]) dX12_isKnown_33 rfl rfl (by decide) rfl ?_
  refine a_goto 5 dX12_isKnown_36 (by decide) ?_
  refine a_pick (lc2 := [(0, .ref x0), (1, .int x1), (2, .int x2), (3, .int (s5 + s4)), (4, .int (x4 + 1))]) [2, 3, 4, 1, 0] rfl ?_
  exact hK5 x0 x1 x2 (s5 + s4) (x4 + 1)
set_option maxRecDepth 100000 in
set_option maxHeartbeats 4000000 in
theorem t_X12_isKnown_b5_body (h : AH) (N : Nat) (K5 : Nat → Int32 → Int32 → Int32 → Int32 → Option Int32) (hK5 : ∀ (z0 : Nat) (z1 : Int32) (z2 : Int32) (z3 : Int32) (z4 : Int32), AO l g M_X12_isKnown false h 5 [(0, .ref z0), (1, .int z1), (2, .int z2), (3, .int z3), (4, .int z4)] [] h 0 0 (rPi h) (K5 z0 z1 z2 z3 z4)) (x0 : Nat) (x1 : Int32) (x2 : Int32) (x3 : Int32) (x4 : Int32) : AO l g M_X12_isKnown false h 5 [(0, .ref x0), (1, .int x1), (2, .int x2), (3, .int x3), (4, .int x4)] [] h 0 0 (rPi h) (f_X12_isKnown_b5_body h N K5 x0 x1 x2 x3 x4) := by
  unfold f_X12_isKnown_b5_body
  refine a_iload dX12_isKnown_5 4 rfl ?_
  refine a_bipush (v := 12) dX12_isKnown_7 (by decide) ?_
  refine a_icmp_ge 39 dX12_isKnown_9 (by decide) (fun c1 => ?_) (fun c1 => ?_)
  · refine a_iload_n dX12_isKnown_39 rfl 3 rfl ?_
    refine a_bipush (v := 6) dX12_isKnown_40 (by decide) ?_
    refine a_icmp_lt 49 dX12_isKnown_42 (by decide) (fun c2 => ?_) (fun c2 => ?_)
    · refine a_iconst (v := 0) dX12_isKnown_49 (by decide) ?_
      exact a_zret dX12_isKnown_50 rfl (Or.inl rfl) rfl (by decide) (by decide)
    · refine a_iconst (v := 1) dX12_isKnown_45 (by decide) ?_
      refine a_goto 50 dX12_isKnown_46 (by decide) ?_
      exact a_zret dX12_isKnown_50 rfl (Or.inr rfl) rfl (by decide) (by decide)
  · refine a_iload_n dX12_isKnown_12 rfl 3 rfl ?_
    refine a_aload_n dX12_isKnown_13 rfl 0 rfl ?_
    refine a_iconst (v := 0) dX12_isKnown_14 (by decide) ?_
    refine a_iload_n dX12_isKnown_15 rfl 1 rfl ?_
    refine a_iload_n dX12_isKnown_16 rfl 2 rfl ?_
    refine a_iload dX12_isKnown_17 4 rfl ?_
    refine a_cV_Pi (r := x0) (ci := 13) (as := [.int 0, .int x1, .int x2, .int x4]) (st := [.int x3]) dX12_isKnown_19 (c_X12_rainOf l g h x0 0 x1 x2 x4) rfl km_X12_rainOf (hm_X12_rainOf) rfl (by decide) rfl (fun _ ee => g_X12_rainOf ee) w_methodLink_RainCoverModel_253 w_instanceMethod_RainCoverModel_rainOf__IIII_I w_selects_RainCoverModel_RainCoverModel_rainOf__IIII_I_RainCoverModel_rainOf__IIII_I ⟨⟨by decide, by decide⟩, ⟨by decide, by decide⟩⟩ (Nat.le_of_ble_eq_true rfl) (fun v3 => ?_)
    refine a_iconst (v := (-1)) dX12_isKnown_22 (by decide) ?_
    refine a_icmp_eq 30 dX12_isKnown_23 (by decide) (fun c4 => ?_) (fun c4 => ?_)
    · refine a_iconst (v := 0) dX12_isKnown_30 (by decide) ?_
      refine a_pick (lc2 := [(0, .ref x0), (1, .int x1), (2, .int x2), (4, .int x4)]) [0, 1, 2, 4] rfl ?_
      exact t_X12_isKnown_b31 h N K5 hK5 x0 x1 x2 x4 0 x3
    · refine a_iconst (v := 1) dX12_isKnown_26 (by decide) ?_
      refine a_goto 31 dX12_isKnown_27 (by decide) ?_
      refine a_pick (lc2 := [(0, .ref x0), (1, .int x1), (2, .int x2), (4, .int x4)]) [0, 1, 2, 4] rfl ?_
      exact t_X12_isKnown_b31 h N K5 hK5 x0 x1 x2 x4 1 x3
set_option maxRecDepth 100000 in
set_option maxHeartbeats 4000000 in
theorem t_X12_isKnown_b5 (h : AH) (N : Nat) : ∀ (n : Nat) (x0 : Nat) (x1 : Int32) (x2 : Int32) (x3 : Int32) (x4 : Int32) , AO l g M_X12_isKnown false h 5 [(0, .ref x0), (1, .int x1), (2, .int x2), (3, .int x3), (4, .int x4)] [] h 0 0 (rPi h) (f_X12_isKnown_b5 h N  n x0 x1 x2 x3 x4) := by
  intro n
  induction n with
  | zero => intro x0 x1 x2 x3 x4; exact a_eq rfl a_none
  | succ n ih => intro x0 x1 x2 x3 x4; exact a_eq rfl (t_X12_isKnown_b5_body h N  (f_X12_isKnown_b5 h N  n) ih x0 x1 x2 x3 x4)
end
set_option maxRecDepth 100000 in
set_option maxHeartbeats 4000000 in
theorem c_X12_isKnown (l : Launch) (g : GG) (h : AH) (N : Nat) (p0 : Nat) (p1 : Int32) (p2 : Int32) : CN l g yX12_isKnown M_X12_isKnown false [.ref p0, .int p1, .int p2] h ((rPi h)) (f_X12_isKnown h N p0 p1 p2) := by
  refine CN.of (by decide) rfl (fun hh => by first | rfl | cases hh) (Nat.le_of_ble_eq_true rfl) ?_
  unfold f_X12_isKnown
  refine a_gd (fun hkd => ?_)
  refine a_iconst (v := 0) dX12_isKnown_0 (by decide) ?_
  refine a_istore_n (lc2 := [(3, .int 0), (0, .ref p0), (1, .int p1), (2, .int p2)]) dX12_isKnown_1 rfl (by decide) rfl ?_
  refine a_iconst (v := 0) dX12_isKnown_2 (by decide) ?_
  refine a_istore (lc2 := [(4, .int 0), (3, .int 0), (0, .ref p0), (1, .int p1), (2, .int p2)]) dX12_isKnown_3 (by decide) rfl ?_
  refine a_pick (lc2 := [(0, .ref p0), (1, .int p1), (2, .int p2), (3, .int 0), (4, .int 0)]) [2, 3, 4, 1, 0] rfl ?_
  exact t_X12_isKnown_b5 h N N p0 p1 p2 0 0
theorem dX12_isAsked_0 : decode cX12_isAsked 0 = .ok (.aload_n 0, 1) := by decide +kernel
theorem dX12_isAsked_1 : decode cX12_isAsked 1 = .ok (.iload_n 1, 1) := by decide +kernel
theorem dX12_isAsked_2 : decode cX12_isAsked 2 = .ok (.invokevirtual 328, 3) := by decide +kernel
theorem dX12_isAsked_5 : decode cX12_isAsked 5 = .ok (.ifCond .eq 34, 3) := by decide +kernel
theorem dX12_isAsked_8 : decode cX12_isAsked 8 = .ok (.aload_n 0, 1) := by decide +kernel
theorem dX12_isAsked_9 : decode cX12_isAsked 9 = .ok (.iload_n 2, 1) := by decide +kernel
theorem dX12_isAsked_10 : decode cX12_isAsked 10 = .ok (.invokevirtual 225, 3) := by decide +kernel
theorem dX12_isAsked_13 : decode cX12_isAsked 13 = .ok (.ifCond .eq 26, 3) := by decide +kernel
theorem dX12_isAsked_16 : decode cX12_isAsked 16 = .ok (.iload_n 3, 1) := by decide +kernel
theorem dX12_isAsked_17 : decode cX12_isAsked 17 = .ok (.iconst 0, 1) := by decide +kernel
theorem dX12_isAsked_18 : decode cX12_isAsked 18 = .ok (.iconst 5, 1) := by decide +kernel
theorem dX12_isAsked_19 : decode cX12_isAsked 19 = .ok (.invokestatic 204, 3) := by decide +kernel
theorem dX12_isAsked_22 : decode cX12_isAsked 22 = .ok (.ifCond .eq 17, 3) := by decide +kernel
theorem dX12_isAsked_25 : decode cX12_isAsked 25 = .ok (.iload 4, 2) := by decide +kernel
theorem dX12_isAsked_27 : decode cX12_isAsked 27 = .ok (.iconst 0, 1) := by decide +kernel
theorem dX12_isAsked_28 : decode cX12_isAsked 28 = .ok (.iconst 3, 1) := by decide +kernel
theorem dX12_isAsked_29 : decode cX12_isAsked 29 = .ok (.invokestatic 204, 3) := by decide +kernel
theorem dX12_isAsked_32 : decode cX12_isAsked 32 = .ok (.ifCond .eq 7, 3) := by decide +kernel
theorem dX12_isAsked_35 : decode cX12_isAsked 35 = .ok (.iconst 1, 1) := by decide +kernel
theorem dX12_isAsked_36 : decode cX12_isAsked 36 = .ok (.goto 4, 3) := by decide +kernel
theorem dX12_isAsked_39 : decode cX12_isAsked 39 = .ok (.iconst 0, 1) := by decide +kernel
theorem dX12_isAsked_40 : decode cX12_isAsked 40 = .ok (.ireturn, 1) := by decide +kernel
abbrev M_X12_isAsked : MI := (RX12, cX12_isAsked, 5, (some .boolean), ({ frames := 2, cells := 0, slots := 0, locals := 43 } : Room), 0, 0, false)
def f_X12_isAsked (h : AH) (p0 : Nat) (p1 : Int32) (p2 : Int32) (p3 : Int32) (p4 : Int32) : Option Int32 := if kd h p0 = 13 + 1 then (f_X12_isTerm h p0 p1).bind fun v1 => (if v1 = 0 then some 0 else (f_X12_isGauge h p0 p2).bind fun v3 => (if v3 = 0 then some 0 else (f_X12_in h p3 0 5).bind fun v5 => (if v5 = 0 then some 0 else (f_X12_in h p4 0 3).bind fun v7 => (if v7 = 0 then some 0 else some 1)))) else none
theorem g_X12_isAsked {h : AH} {p0 : Nat} {p1 : Int32} {p2 : Int32} {p3 : Int32} {p4 : Int32} {x : Int32} (e : f_X12_isAsked h p0 p1 p2 p3 p4 = some x) : kd h p0 = 13 + 1 := by
  unfold f_X12_isAsked at e
  by_cases hk : kd h p0 = 13 + 1
  · exact hk
  · rw [if_neg hk] at e
    cases e
theorem km_X12_isAsked : KM yX12_isAsked M_X12_isAsked 4 := ⟨in_tb 1709 (by decide +kernel) rfl, in_tb 9 (by decide +kernel) rfl, by decide +kernel, rfl, rfl⟩
theorem hm_X12_isAsked : M_X12_isAsked.2.2.2.2.2.1 = 0 ∧ M_X12_isAsked.2.2.2.2.2.2.1 = 0 := ⟨rfl, rfl⟩
section
variable {l : Launch} {g : GG}
end
set_option maxRecDepth 100000 in
set_option maxHeartbeats 4000000 in
theorem c_X12_isAsked (l : Launch) (g : GG) (h : AH) (p0 : Nat) (p1 : Int32) (p2 : Int32) (p3 : Int32) (p4 : Int32) : CN l g yX12_isAsked M_X12_isAsked false [.ref p0, .int p1, .int p2, .int p3, .int p4] h ((rPi h)) (f_X12_isAsked h p0 p1 p2 p3 p4) := by
  refine CN.of (by decide) rfl (fun hh => by first | rfl | cases hh) (Nat.le_of_ble_eq_true rfl) ?_
  unfold f_X12_isAsked
  refine a_gd (fun hkd => ?_)
  refine a_aload_n dX12_isAsked_0 rfl 0 rfl ?_
  refine a_iload_n dX12_isAsked_1 rfl 1 rfl ?_
  refine a_cV_Pi (r := p0) (ci := 13) (as := [.int p1]) (st := []) dX12_isAsked_2 (c_X12_isTerm l g h p0 p1) rfl km_X12_isTerm (hm_X12_isTerm) rfl (by decide) rfl (fun _ ee => g_X12_isTerm ee) w_methodLink_RainCoverModel_328 w_instanceMethod_RainCoverModel_isTerm__I_Z w_selects_RainCoverModel_RainCoverModel_isTerm__I_Z_RainCoverModel_isTerm__I_Z ⟨⟨by decide, by decide⟩, ⟨by decide, by decide⟩⟩ (Nat.le_of_ble_eq_true rfl) (fun v1 => ?_)
  refine a_if_eq 39 dX12_isAsked_5 (by decide) (fun c2 => ?_) (fun c2 => ?_)
  · refine a_iconst (v := 0) dX12_isAsked_39 (by decide) ?_
    exact a_zret dX12_isAsked_40 rfl (Or.inl rfl) rfl (by decide) (by decide)
  · refine a_aload_n dX12_isAsked_8 rfl 0 rfl ?_
    refine a_iload_n dX12_isAsked_9 rfl 2 rfl ?_
    refine a_cV_Pi (r := p0) (ci := 13) (as := [.int p2]) (st := []) dX12_isAsked_10 (c_X12_isGauge l g h p0 p2) rfl km_X12_isGauge (hm_X12_isGauge) rfl (by decide) rfl (fun _ ee => g_X12_isGauge ee) w_methodLink_RainCoverModel_225 w_instanceMethod_RainCoverModel_isGauge__I_Z w_selects_RainCoverModel_RainCoverModel_isGauge__I_Z_RainCoverModel_isGauge__I_Z ⟨⟨by decide, by decide⟩, ⟨by decide, by decide⟩⟩ (Nat.le_of_ble_eq_true rfl) (fun v3 => ?_)
    refine a_if_eq 39 dX12_isAsked_13 (by decide) (fun c4 => ?_) (fun c4 => ?_)
    · refine a_iconst (v := 0) dX12_isAsked_39 (by decide) ?_
      exact a_zret dX12_isAsked_40 rfl (Or.inl rfl) rfl (by decide) (by decide)
    · refine a_iload_n dX12_isAsked_16 rfl 3 rfl ?_
      refine a_iconst (v := 0) dX12_isAsked_17 (by decide) ?_
      refine a_iconst (v := 5) dX12_isAsked_18 (by decide) ?_
      refine a_cS_Pi (as := [.int p3, .int 0, .int 5]) (st := []) dX12_isAsked_19 (c_X12_in l g h p3 0 5) rfl km_X12_in (hm_X12_in) w_methodLink_RainCoverModel_204 w_static_RainCoverModel_in__III_Z ⟨⟨by decide, by decide⟩, ⟨by decide, by decide⟩⟩ (Nat.le_of_ble_eq_true rfl) (fun v5 => ?_)
      refine a_if_eq 39 dX12_isAsked_22 (by decide) (fun c6 => ?_) (fun c6 => ?_)
      · refine a_iconst (v := 0) dX12_isAsked_39 (by decide) ?_
        exact a_zret dX12_isAsked_40 rfl (Or.inl rfl) rfl (by decide) (by decide)
      · refine a_iload dX12_isAsked_25 4 rfl ?_
        refine a_iconst (v := 0) dX12_isAsked_27 (by decide) ?_
        refine a_iconst (v := 3) dX12_isAsked_28 (by decide) ?_
        refine a_cS_Pi (as := [.int p4, .int 0, .int 3]) (st := []) dX12_isAsked_29 (c_X12_in l g h p4 0 3) rfl km_X12_in (hm_X12_in) w_methodLink_RainCoverModel_204 w_static_RainCoverModel_in__III_Z ⟨⟨by decide, by decide⟩, ⟨by decide, by decide⟩⟩ (Nat.le_of_ble_eq_true rfl) (fun v7 => ?_)
        refine a_if_eq 39 dX12_isAsked_32 (by decide) (fun c8 => ?_) (fun c8 => ?_)
        · refine a_iconst (v := 0) dX12_isAsked_39 (by decide) ?_
          exact a_zret dX12_isAsked_40 rfl (Or.inl rfl) rfl (by decide) (by decide)
        · refine a_iconst (v := 1) dX12_isAsked_35 (by decide) ?_
          refine a_goto 40 dX12_isAsked_36 (by decide) ?_
          exact a_zret dX12_isAsked_40 rfl (Or.inr rfl) rfl (by decide) (by decide)
theorem dX12_knowns_0 : decode cX12_knowns 0 = .ok (.iconst 0, 1) := by decide +kernel
theorem dX12_knowns_1 : decode cX12_knowns 1 = .ok (.istore_n 2, 1) := by decide +kernel
theorem dX12_knowns_2 : decode cX12_knowns 2 = .ok (.iconst 0, 1) := by decide +kernel
theorem dX12_knowns_3 : decode cX12_knowns 3 = .ok (.istore_n 3, 1) := by decide +kernel
theorem dX12_knowns_4 : decode cX12_knowns 4 = .ok (.iload_n 3, 1) := by decide +kernel
theorem dX12_knowns_5 : decode cX12_knowns 5 = .ok (.bipush 16, 2) := by decide +kernel
theorem dX12_knowns_7 : decode cX12_knowns 7 = .ok (.if_icmp .ge 26, 3) := by decide +kernel
theorem dX12_knowns_10 : decode cX12_knowns 10 = .ok (.iload_n 2, 1) := by decide +kernel
theorem dX12_knowns_11 : decode cX12_knowns 11 = .ok (.aload_n 0, 1) := by decide +kernel
theorem dX12_knowns_12 : decode cX12_knowns 12 = .ok (.iload_n 1, 1) := by decide +kernel
theorem dX12_knowns_13 : decode cX12_knowns 13 = .ok (.iload_n 3, 1) := by decide +kernel
theorem dX12_knowns_14 : decode cX12_knowns 14 = .ok (.invokevirtual 392, 3) := by decide +kernel
theorem dX12_knowns_17 : decode cX12_knowns 17 = .ok (.ifCond .eq 7, 3) := by decide +kernel
theorem dX12_knowns_20 : decode cX12_knowns 20 = .ok (.iconst 1, 1) := by decide +kernel
theorem dX12_knowns_21 : decode cX12_knowns 21 = .ok (.goto 4, 3) := by decide +kernel
theorem dX12_knowns_24 : decode cX12_knowns 24 = .ok (.iconst 0, 1) := by decide +kernel
theorem dX12_knowns_25 : decode cX12_knowns 25 = .ok (.iadd, 1) := by decide +kernel
theorem dX12_knowns_26 : decode cX12_knowns 26 = .ok (.istore_n 2, 1) := by decide +kernel
theorem dX12_knowns_27 : decode cX12_knowns 27 = .ok (.iinc 3 1, 3) := by decide +kernel
theorem dX12_knowns_30 : decode cX12_knowns 30 = .ok (.goto (-26), 3) := by decide +kernel
theorem dX12_knowns_33 : decode cX12_knowns 33 = .ok (.iload_n 2, 1) := by decide +kernel
theorem dX12_knowns_34 : decode cX12_knowns 34 = .ok (.ireturn, 1) := by decide +kernel
abbrev M_X12_knowns : MI := (RX12, cX12_knowns, 4, (some .int), ({ frames := 3, cells := 0, slots := 0, locals := 70 } : Room), 0, 0, false)
def f_X12_knowns_b25 (h : AH) (N : Nat) (K4 : Nat → Int32 → Int32 → Int32 → Option Int32) (x0 : Nat) (x1 : Int32) (x3 : Int32) (s3 : Int32) (s4 : Int32) : Option Int32 := K4 x0 x1 (s4 + s3) (x3 + 1)
def f_X12_knowns_b4_body (h : AH) (N : Nat) (K4 : Nat → Int32 → Int32 → Int32 → Option Int32) (x0 : Nat) (x1 : Int32) (x2 : Int32) (x3 : Int32) : Option Int32 := (if 16 ≤ x3 then some x2 else (f_X12_isKnown h N x0 x1 x3).bind fun v2 => (if v2 = 0 then f_X12_knowns_b25 h N K4 x0 x1 x3 0 x2 else f_X12_knowns_b25 h N K4 x0 x1 x3 1 x2))
def f_X12_knowns_b4 (h : AH) (N : Nat) : Nat → Nat → Int32 → Int32 → Int32 → Option Int32
  | 0, _, _, _, _ => none
  | n + 1, x0, x1, x2, x3 => f_X12_knowns_b4_body h N  (f_X12_knowns_b4 h N  n) x0 x1 x2 x3
def f_X12_knowns (h : AH) (N : Nat) (p0 : Nat) (p1 : Int32) : Option Int32 := if kd h p0 = 13 + 1 then f_X12_knowns_b4 h N N p0 p1 0 0 else none
theorem g_X12_knowns {h : AH} {N : Nat} {p0 : Nat} {p1 : Int32} {x : Int32} (e : f_X12_knowns h N p0 p1 = some x) : kd h p0 = 13 + 1 := by
  unfold f_X12_knowns at e
  by_cases hk : kd h p0 = 13 + 1
  · exact hk
  · rw [if_neg hk] at e
    cases e
theorem km_X12_knowns : KM yX12_knowns M_X12_knowns 1 := ⟨in_tb 1713 (by decide +kernel) rfl, in_tb 9 (by decide +kernel) rfl, by decide +kernel, rfl, rfl⟩
theorem hm_X12_knowns : M_X12_knowns.2.2.2.2.2.1 = 0 ∧ M_X12_knowns.2.2.2.2.2.2.1 = 0 := ⟨rfl, rfl⟩
section
variable {l : Launch} {g : GG}
set_option maxRecDepth 100000 in
set_option maxHeartbeats 4000000 in
theorem t_X12_knowns_b25 (h : AH) (N : Nat) (K4 : Nat → Int32 → Int32 → Int32 → Option Int32) (hK4 : ∀ (z0 : Nat) (z1 : Int32) (z2 : Int32) (z3 : Int32), AO l g M_X12_knowns false h 4 [(0, .ref z0), (1, .int z1), (2, .int z2), (3, .int z3)] [] h 0 0 (rPi h) (K4 z0 z1 z2 z3)) (x0 : Nat) (x1 : Int32) (x3 : Int32) (s3 : Int32) (s4 : Int32) : AO l g M_X12_knowns false h 25 [(0, .ref x0), (1, .int x1), (3, .int x3)] [.int s3, .int s4] h 0 0 (rPi h) (f_X12_knowns_b25 h N K4 x0 x1 x3 s3 s4) := by
  unfold f_X12_knowns_b25
  refine a_iadd dX12_knowns_25 ?_
  refine a_istore_n (lc2 := [(2, .int (s4 + s3)), (0, .ref x0), (1, .int x1), (3, .int x3)]) dX12_knowns_26 rfl (by decide) rfl ?_
  refine a_iinc (q := 3) (v := (x3 + 1)) (lc2 := [(3, .int (x3 + 1)), (2, .int (s4 + s3)), (0, .ref x0), (1, .int x1)]) dX12_knowns_27 rfl rfl (by decide) rfl ?_
  refine a_goto 4 dX12_knowns_30 (by decide) ?_
  refine a_pick (lc2 := [(0, .ref x0), (1, .int x1), (2, .int (s4 + s3)), (3, .int (x3 + 1))]) [2, 3, 1, 0] rfl ?_
  exact hK4 x0 x1 (s4 + s3) (x3 + 1)
set_option maxRecDepth 100000 in
set_option maxHeartbeats 4000000 in
theorem t_X12_knowns_b4_body (h : AH) (N : Nat) (K4 : Nat → Int32 → Int32 → Int32 → Option Int32) (hK4 : ∀ (z0 : Nat) (z1 : Int32) (z2 : Int32) (z3 : Int32), AO l g M_X12_knowns false h 4 [(0, .ref z0), (1, .int z1), (2, .int z2), (3, .int z3)] [] h 0 0 (rPi h) (K4 z0 z1 z2 z3)) (x0 : Nat) (x1 : Int32) (x2 : Int32) (x3 : Int32) : AO l g M_X12_knowns false h 4 [(0, .ref x0), (1, .int x1), (2, .int x2), (3, .int x3)] [] h 0 0 (rPi h) (f_X12_knowns_b4_body h N K4 x0 x1 x2 x3) := by
  unfold f_X12_knowns_b4_body
  refine a_iload_n dX12_knowns_4 rfl 3 rfl ?_
  refine a_bipush (v := 16) dX12_knowns_5 (by decide) ?_
  refine a_icmp_ge 33 dX12_knowns_7 (by decide) (fun c1 => ?_) (fun c1 => ?_)
  · refine a_iload_n dX12_knowns_33 rfl 2 rfl ?_
    exact a_iret dX12_knowns_34 rfl rfl (by decide) (by decide)
  · refine a_iload_n dX12_knowns_10 rfl 2 rfl ?_
    refine a_aload_n dX12_knowns_11 rfl 0 rfl ?_
    refine a_iload_n dX12_knowns_12 rfl 1 rfl ?_
    refine a_iload_n dX12_knowns_13 rfl 3 rfl ?_
    refine a_cV_Pi (r := x0) (ci := 13) (as := [.int x1, .int x3]) (st := [.int x2]) dX12_knowns_14 (c_X12_isKnown l g h N x0 x1 x3) rfl km_X12_isKnown (hm_X12_isKnown) rfl (by decide) rfl (fun _ ee => g_X12_isKnown ee) w_methodLink_RainCoverModel_392 w_instanceMethod_RainCoverModel_isKnown__II_Z w_selects_RainCoverModel_RainCoverModel_isKnown__II_Z_RainCoverModel_isKnown__II_Z ⟨⟨by decide, by decide⟩, ⟨by decide, by decide⟩⟩ (Nat.le_of_ble_eq_true rfl) (fun v2 => ?_)
    refine a_if_eq 24 dX12_knowns_17 (by decide) (fun c3 => ?_) (fun c3 => ?_)
    · refine a_iconst (v := 0) dX12_knowns_24 (by decide) ?_
      refine a_pick (lc2 := [(0, .ref x0), (1, .int x1), (3, .int x3)]) [0, 1, 3] rfl ?_
      exact t_X12_knowns_b25 h N K4 hK4 x0 x1 x3 0 x2
    · refine a_iconst (v := 1) dX12_knowns_20 (by decide) ?_
      refine a_goto 25 dX12_knowns_21 (by decide) ?_
      refine a_pick (lc2 := [(0, .ref x0), (1, .int x1), (3, .int x3)]) [0, 1, 3] rfl ?_
      exact t_X12_knowns_b25 h N K4 hK4 x0 x1 x3 1 x2
set_option maxRecDepth 100000 in
set_option maxHeartbeats 4000000 in
theorem t_X12_knowns_b4 (h : AH) (N : Nat) : ∀ (n : Nat) (x0 : Nat) (x1 : Int32) (x2 : Int32) (x3 : Int32) , AO l g M_X12_knowns false h 4 [(0, .ref x0), (1, .int x1), (2, .int x2), (3, .int x3)] [] h 0 0 (rPi h) (f_X12_knowns_b4 h N  n x0 x1 x2 x3) := by
  intro n
  induction n with
  | zero => intro x0 x1 x2 x3; exact a_eq rfl a_none
  | succ n ih => intro x0 x1 x2 x3; exact a_eq rfl (t_X12_knowns_b4_body h N  (f_X12_knowns_b4 h N  n) ih x0 x1 x2 x3)
end
set_option maxRecDepth 100000 in
set_option maxHeartbeats 4000000 in
theorem c_X12_knowns (l : Launch) (g : GG) (h : AH) (N : Nat) (p0 : Nat) (p1 : Int32) : CN l g yX12_knowns M_X12_knowns false [.ref p0, .int p1] h ((rPi h)) (f_X12_knowns h N p0 p1) := by
  refine CN.of (by decide) rfl (fun hh => by first | rfl | cases hh) (Nat.le_of_ble_eq_true rfl) ?_
  unfold f_X12_knowns
  refine a_gd (fun hkd => ?_)
  refine a_iconst (v := 0) dX12_knowns_0 (by decide) ?_
  refine a_istore_n (lc2 := [(2, .int 0), (0, .ref p0), (1, .int p1)]) dX12_knowns_1 rfl (by decide) rfl ?_
  refine a_iconst (v := 0) dX12_knowns_2 (by decide) ?_
  refine a_istore_n (lc2 := [(3, .int 0), (2, .int 0), (0, .ref p0), (1, .int p1)]) dX12_knowns_3 rfl (by decide) rfl ?_
  refine a_pick (lc2 := [(0, .ref p0), (1, .int p1), (2, .int 0), (3, .int 0)]) [2, 3, 1, 0] rfl ?_
  exact t_X12_knowns_b4 h N N p0 p1 0 0
theorem dX12_paid_0 : decode cX12_paid 0 = .ok (.iconst 0, 1) := by decide +kernel
theorem dX12_paid_1 : decode cX12_paid 1 = .ok (.istore 5, 2) := by decide +kernel
theorem dX12_paid_3 : decode cX12_paid 3 = .ok (.iconst 0, 1) := by decide +kernel
theorem dX12_paid_4 : decode cX12_paid 4 = .ok (.istore 6, 2) := by decide +kernel
theorem dX12_paid_6 : decode cX12_paid 6 = .ok (.iload 6, 2) := by decide +kernel
theorem dX12_paid_8 : decode cX12_paid 8 = .ok (.bipush 16, 2) := by decide +kernel
theorem dX12_paid_10 : decode cX12_paid 10 = .ok (.if_icmp .ge 40, 3) := by decide +kernel
theorem dX12_paid_13 : decode cX12_paid 13 = .ok (.iload 5, 2) := by decide +kernel
theorem dX12_paid_15 : decode cX12_paid 15 = .ok (.aload_n 0, 1) := by decide +kernel
theorem dX12_paid_16 : decode cX12_paid 16 = .ok (.iload_n 2, 1) := by decide +kernel
theorem dX12_paid_17 : decode cX12_paid 17 = .ok (.iload 6, 2) := by decide +kernel
theorem dX12_paid_19 : decode cX12_paid 19 = .ok (.invokevirtual 392, 3) := by decide +kernel
theorem dX12_paid_22 : decode cX12_paid 22 = .ok (.ifCond .eq 18, 3) := by decide +kernel
theorem dX12_paid_25 : decode cX12_paid 25 = .ok (.aload_n 0, 1) := by decide +kernel
theorem dX12_paid_26 : decode cX12_paid 26 = .ok (.iconst 0, 1) := by decide +kernel
theorem dX12_paid_27 : decode cX12_paid 27 = .ok (.iload_n 1, 1) := by decide +kernel
theorem dX12_paid_28 : decode cX12_paid 28 = .ok (.iload_n 2, 1) := by decide +kernel
theorem dX12_paid_29 : decode cX12_paid 29 = .ok (.iload 6, 2) := by decide +kernel
theorem dX12_paid_31 : decode cX12_paid 31 = .ok (.iload_n 3, 1) := by decide +kernel
theorem dX12_paid_32 : decode cX12_paid 32 = .ok (.iload 4, 2) := by decide +kernel
theorem dX12_paid_34 : decode cX12_paid 34 = .ok (.invokevirtual 331, 3) := by decide +kernel
theorem dX12_paid_37 : decode cX12_paid 37 = .ok (.goto 4, 3) := by decide +kernel
theorem dX12_paid_40 : decode cX12_paid 40 = .ok (.iconst 0, 1) := by decide +kernel
theorem dX12_paid_41 : decode cX12_paid 41 = .ok (.iadd, 1) := by decide +kernel
theorem dX12_paid_42 : decode cX12_paid 42 = .ok (.istore 5, 2) := by decide +kernel
theorem dX12_paid_44 : decode cX12_paid 44 = .ok (.iinc 6 1, 3) := by decide +kernel
theorem dX12_paid_47 : decode cX12_paid 47 = .ok (.goto (-41), 3) := by decide +kernel
theorem dX12_paid_50 : decode cX12_paid 50 = .ok (.iload 5, 2) := by decide +kernel
theorem dX12_paid_52 : decode cX12_paid 52 = .ok (.ireturn, 1) := by decide +kernel
abbrev M_X12_paid : MI := (RX12, cX12_paid, 7, (some .int), ({ frames := 7, cells := 0, slots := 0, locals := 179 } : Room), 0, 0, false)
def f_X12_paid_b41 (h : AH) (N : Nat) (K6 : Nat → Int32 → Int32 → Int32 → Int32 → Int32 → Int32 → Option Int32) (x0 : Nat) (x1 : Int32) (x2 : Int32) (x3 : Int32) (x4 : Int32) (x6 : Int32) (s6 : Int32) (s7 : Int32) : Option Int32 := K6 x0 x1 x2 x3 x4 (s7 + s6) (x6 + 1)
def f_X12_paid_b6_body (h : AH) (N : Nat) (K6 : Nat → Int32 → Int32 → Int32 → Int32 → Int32 → Int32 → Option Int32) (x0 : Nat) (x1 : Int32) (x2 : Int32) (x3 : Int32) (x4 : Int32) (x5 : Int32) (x6 : Int32) : Option Int32 := (if 16 ≤ x6 then some x5 else (f_X12_isKnown h N x0 x2 x6).bind fun v2 => (if v2 = 0 then f_X12_paid_b41 h N K6 x0 x1 x2 x3 x4 x6 0 x5 else (f_X12_payOf h N x0 0 x1 x2 x6 x3 x4).bind fun v4 => f_X12_paid_b41 h N K6 x0 x1 x2 x3 x4 x6 v4 x5))
def f_X12_paid_b6 (h : AH) (N : Nat) : Nat → Nat → Int32 → Int32 → Int32 → Int32 → Int32 → Int32 → Option Int32
  | 0, _, _, _, _, _, _, _ => none
  | n + 1, x0, x1, x2, x3, x4, x5, x6 => f_X12_paid_b6_body h N  (f_X12_paid_b6 h N  n) x0 x1 x2 x3 x4 x5 x6
def f_X12_paid (h : AH) (N : Nat) (p0 : Nat) (p1 : Int32) (p2 : Int32) (p3 : Int32) (p4 : Int32) : Option Int32 := if kd h p0 = 13 + 1 then f_X12_paid_b6 h N N p0 p1 p2 p3 p4 0 0 else none
theorem g_X12_paid {h : AH} {N : Nat} {p0 : Nat} {p1 : Int32} {p2 : Int32} {p3 : Int32} {p4 : Int32} {x : Int32} (e : f_X12_paid h N p0 p1 p2 p3 p4 = some x) : kd h p0 = 13 + 1 := by
  unfold f_X12_paid at e
  by_cases hk : kd h p0 = 13 + 1
  · exact hk
  · rw [if_neg hk] at e
    cases e
theorem km_X12_paid : KM yX12_paid M_X12_paid 4 := ⟨in_tb 1721 (by decide +kernel) rfl, in_tb 9 (by decide +kernel) rfl, by decide +kernel, rfl, rfl⟩
theorem hm_X12_paid : M_X12_paid.2.2.2.2.2.1 = 0 ∧ M_X12_paid.2.2.2.2.2.2.1 = 0 := ⟨rfl, rfl⟩
section
variable {l : Launch} {g : GG}
set_option maxRecDepth 100000 in
set_option maxHeartbeats 4000000 in
theorem t_X12_paid_b41 (h : AH) (N : Nat) (K6 : Nat → Int32 → Int32 → Int32 → Int32 → Int32 → Int32 → Option Int32) (hK6 : ∀ (z0 : Nat) (z1 : Int32) (z2 : Int32) (z3 : Int32) (z4 : Int32) (z5 : Int32) (z6 : Int32), AO l g M_X12_paid false h 6 [(0, .ref z0), (1, .int z1), (2, .int z2), (3, .int z3), (4, .int z4), (5, .int z5), (6, .int z6)] [] h 0 0 (rPi h) (K6 z0 z1 z2 z3 z4 z5 z6)) (x0 : Nat) (x1 : Int32) (x2 : Int32) (x3 : Int32) (x4 : Int32) (x6 : Int32) (s6 : Int32) (s7 : Int32) : AO l g M_X12_paid false h 41 [(0, .ref x0), (1, .int x1), (2, .int x2), (3, .int x3), (4, .int x4), (6, .int x6)] [.int s6, .int s7] h 0 0 (rPi h) (f_X12_paid_b41 h N K6 x0 x1 x2 x3 x4 x6 s6 s7) := by
  unfold f_X12_paid_b41
  refine a_iadd dX12_paid_41 ?_
  refine a_istore (lc2 := [(5, .int (s7 + s6)), (0, .ref x0), (1, .int x1), (2, .int x2), (3, .int x3), (4, .int x4), (6, .int x6)]) dX12_paid_42 (by decide) rfl ?_
  refine a_iinc (q := 6) (v := (x6 + 1)) (lc2 := [(6, .int (x6 + 1)), (5, .int (s7 + s6)), (0, .ref x0), (1, .int x1), (2, .int x2), (3, .int x3), (4, .int x4)]) dX12_paid_44 rfl rfl (by decide) rfl ?_
  refine a_goto 6 dX12_paid_47 (by decide) ?_
  refine a_pick (lc2 := [(0, .ref x0), (1, .int x1), (2, .int x2), (3, .int x3), (4, .int x4), (5, .int (s7 + s6)), (6, .int (x6 + 1))]) [2, 3, 4, 5, 6, 1, 0] rfl ?_
  exact hK6 x0 x1 x2 x3 x4 (s7 + s6) (x6 + 1)
set_option maxRecDepth 100000 in
set_option maxHeartbeats 4000000 in
theorem t_X12_paid_b6_body (h : AH) (N : Nat) (K6 : Nat → Int32 → Int32 → Int32 → Int32 → Int32 → Int32 → Option Int32) (hK6 : ∀ (z0 : Nat) (z1 : Int32) (z2 : Int32) (z3 : Int32) (z4 : Int32) (z5 : Int32) (z6 : Int32), AO l g M_X12_paid false h 6 [(0, .ref z0), (1, .int z1), (2, .int z2), (3, .int z3), (4, .int z4), (5, .int z5), (6, .int z6)] [] h 0 0 (rPi h) (K6 z0 z1 z2 z3 z4 z5 z6)) (x0 : Nat) (x1 : Int32) (x2 : Int32) (x3 : Int32) (x4 : Int32) (x5 : Int32) (x6 : Int32) : AO l g M_X12_paid false h 6 [(0, .ref x0), (1, .int x1), (2, .int x2), (3, .int x3), (4, .int x4), (5, .int x5), (6, .int x6)] [] h 0 0 (rPi h) (f_X12_paid_b6_body h N K6 x0 x1 x2 x3 x4 x5 x6) := by
  unfold f_X12_paid_b6_body
  refine a_iload dX12_paid_6 6 rfl ?_
  refine a_bipush (v := 16) dX12_paid_8 (by decide) ?_
  refine a_icmp_ge 50 dX12_paid_10 (by decide) (fun c1 => ?_) (fun c1 => ?_)
  · refine a_iload dX12_paid_50 5 rfl ?_
    exact a_iret dX12_paid_52 rfl rfl (by decide) (by decide)
  · refine a_iload dX12_paid_13 5 rfl ?_
    refine a_aload_n dX12_paid_15 rfl 0 rfl ?_
    refine a_iload_n dX12_paid_16 rfl 2 rfl ?_
    refine a_iload dX12_paid_17 6 rfl ?_
    refine a_cV_Pi (r := x0) (ci := 13) (as := [.int x2, .int x6]) (st := [.int x5]) dX12_paid_19 (c_X12_isKnown l g h N x0 x2 x6) rfl km_X12_isKnown (hm_X12_isKnown) rfl (by decide) rfl (fun _ ee => g_X12_isKnown ee) w_methodLink_RainCoverModel_392 w_instanceMethod_RainCoverModel_isKnown__II_Z w_selects_RainCoverModel_RainCoverModel_isKnown__II_Z_RainCoverModel_isKnown__II_Z ⟨⟨by decide, by decide⟩, ⟨by decide, by decide⟩⟩ (Nat.le_of_ble_eq_true rfl) (fun v2 => ?_)
    refine a_if_eq 40 dX12_paid_22 (by decide) (fun c3 => ?_) (fun c3 => ?_)
    · refine a_iconst (v := 0) dX12_paid_40 (by decide) ?_
      refine a_pick (lc2 := [(0, .ref x0), (1, .int x1), (2, .int x2), (3, .int x3), (4, .int x4), (6, .int x6)]) [0, 1, 2, 3, 4, 6] rfl ?_
      exact t_X12_paid_b41 h N K6 hK6 x0 x1 x2 x3 x4 x6 0 x5
    · refine a_aload_n dX12_paid_25 rfl 0 rfl ?_
      refine a_iconst (v := 0) dX12_paid_26 (by decide) ?_
      refine a_iload_n dX12_paid_27 rfl 1 rfl ?_
      refine a_iload_n dX12_paid_28 rfl 2 rfl ?_
      refine a_iload dX12_paid_29 6 rfl ?_
      refine a_iload_n dX12_paid_31 rfl 3 rfl ?_
      refine a_iload dX12_paid_32 4 rfl ?_
      refine a_cV_Pi (r := x0) (ci := 13) (as := [.int 0, .int x1, .int x2, .int x6, .int x3, .int x4]) (st := [.int x5]) dX12_paid_34 (c_X12_payOf l g h N x0 0 x1 x2 x6 x3 x4) rfl km_X12_payOf (hm_X12_payOf) rfl (by decide) rfl (fun _ ee => g_X12_payOf ee) w_methodLink_RainCoverModel_331 w_instanceMethod_RainCoverModel_payOf__IIIIII_I w_selects_RainCoverModel_RainCoverModel_payOf__IIIIII_I_RainCoverModel_payOf__IIIIII_I ⟨⟨by decide, by decide⟩, ⟨by decide, by decide⟩⟩ (Nat.le_of_ble_eq_true rfl) (fun v4 => ?_)
      refine a_goto 41 dX12_paid_37 (by decide) ?_
      refine a_pick (lc2 := [(0, .ref x0), (1, .int x1), (2, .int x2), (3, .int x3), (4, .int x4), (6, .int x6)]) [0, 1, 2, 3, 4, 6] rfl ?_
      exact t_X12_paid_b41 h N K6 hK6 x0 x1 x2 x3 x4 x6 v4 x5
set_option maxRecDepth 100000 in
set_option maxHeartbeats 4000000 in
theorem t_X12_paid_b6 (h : AH) (N : Nat) : ∀ (n : Nat) (x0 : Nat) (x1 : Int32) (x2 : Int32) (x3 : Int32) (x4 : Int32) (x5 : Int32) (x6 : Int32) , AO l g M_X12_paid false h 6 [(0, .ref x0), (1, .int x1), (2, .int x2), (3, .int x3), (4, .int x4), (5, .int x5), (6, .int x6)] [] h 0 0 (rPi h) (f_X12_paid_b6 h N  n x0 x1 x2 x3 x4 x5 x6) := by
  intro n
  induction n with
  | zero => intro x0 x1 x2 x3 x4 x5 x6; exact a_eq rfl a_none
  | succ n ih => intro x0 x1 x2 x3 x4 x5 x6; exact a_eq rfl (t_X12_paid_b6_body h N  (f_X12_paid_b6 h N  n) ih x0 x1 x2 x3 x4 x5 x6)
end
set_option maxRecDepth 100000 in
set_option maxHeartbeats 4000000 in
theorem c_X12_paid (l : Launch) (g : GG) (h : AH) (N : Nat) (p0 : Nat) (p1 : Int32) (p2 : Int32) (p3 : Int32) (p4 : Int32) : CN l g yX12_paid M_X12_paid false [.ref p0, .int p1, .int p2, .int p3, .int p4] h ((rPi h)) (f_X12_paid h N p0 p1 p2 p3 p4) := by
  refine CN.of (by decide) rfl (fun hh => by first | rfl | cases hh) (Nat.le_of_ble_eq_true rfl) ?_
  unfold f_X12_paid
  refine a_gd (fun hkd => ?_)
  refine a_iconst (v := 0) dX12_paid_0 (by decide) ?_
  refine a_istore (lc2 := [(5, .int 0), (0, .ref p0), (1, .int p1), (2, .int p2), (3, .int p3), (4, .int p4)]) dX12_paid_1 (by decide) rfl ?_
  refine a_iconst (v := 0) dX12_paid_3 (by decide) ?_
  refine a_istore (lc2 := [(6, .int 0), (5, .int 0), (0, .ref p0), (1, .int p1), (2, .int p2), (3, .int p3), (4, .int p4)]) dX12_paid_4 (by decide) rfl ?_
  refine a_pick (lc2 := [(0, .ref p0), (1, .int p1), (2, .int p2), (3, .int p3), (4, .int p4), (5, .int 0), (6, .int 0)]) [2, 3, 4, 5, 6, 1, 0] rfl ?_
  exact t_X12_paid_b6 h N N p0 p1 p2 p3 p4 0 0
theorem dX12_mean_0 : decode cX12_mean 0 = .ok (.aload_n 0, 1) := by decide +kernel
theorem dX12_mean_1 : decode cX12_mean 1 = .ok (.iload_n 1, 1) := by decide +kernel
theorem dX12_mean_2 : decode cX12_mean 2 = .ok (.iload_n 2, 1) := by decide +kernel
theorem dX12_mean_3 : decode cX12_mean 3 = .ok (.iload_n 3, 1) := by decide +kernel
theorem dX12_mean_4 : decode cX12_mean 4 = .ok (.iload 4, 2) := by decide +kernel
theorem dX12_mean_6 : decode cX12_mean 6 = .ok (.invokevirtual 395, 3) := by decide +kernel
theorem dX12_mean_9 : decode cX12_mean 9 = .ok (.ifCond .eq 21, 3) := by decide +kernel
theorem dX12_mean_12 : decode cX12_mean 12 = .ok (.iload 5, 2) := by decide +kernel
theorem dX12_mean_14 : decode cX12_mean 14 = .ok (.iconst 0, 1) := by decide +kernel
theorem dX12_mean_15 : decode cX12_mean 15 = .ok (.iconst 1, 1) := by decide +kernel
theorem dX12_mean_16 : decode cX12_mean 16 = .ok (.invokestatic 204, 3) := by decide +kernel
theorem dX12_mean_19 : decode cX12_mean 19 = .ok (.ifCond .eq 11, 3) := by decide +kernel
theorem dX12_mean_22 : decode cX12_mean 22 = .ok (.aload_n 0, 1) := by decide +kernel
theorem dX12_mean_23 : decode cX12_mean 23 = .ok (.iload_n 2, 1) := by decide +kernel
theorem dX12_mean_24 : decode cX12_mean 24 = .ok (.invokevirtual 398, 3) := by decide +kernel
theorem dX12_mean_27 : decode cX12_mean 27 = .ok (.ifCond .ne 7, 3) := by decide +kernel
theorem dX12_mean_30 : decode cX12_mean 30 = .ok (.ldc2_w 374, 3) := by decide +kernel
theorem dX12_mean_33 : decode cX12_mean 33 = .ok (.lreturn, 1) := by decide +kernel
theorem dX12_mean_34 : decode cX12_mean 34 = .ok (.aload_n 0, 1) := by decide +kernel
theorem dX12_mean_35 : decode cX12_mean 35 = .ok (.iload_n 1, 1) := by decide +kernel
theorem dX12_mean_36 : decode cX12_mean 36 = .ok (.iload_n 2, 1) := by decide +kernel
theorem dX12_mean_37 : decode cX12_mean 37 = .ok (.iload_n 3, 1) := by decide +kernel
theorem dX12_mean_38 : decode cX12_mean 38 = .ok (.iload 4, 2) := by decide +kernel
theorem dX12_mean_40 : decode cX12_mean 40 = .ok (.invokevirtual 401, 3) := by decide +kernel
theorem dX12_mean_43 : decode cX12_mean 43 = .ok (.i2l, 1) := by decide +kernel
theorem dX12_mean_44 : decode cX12_mean 44 = .ok (.aload_n 0, 1) := by decide +kernel
theorem dX12_mean_45 : decode cX12_mean 45 = .ok (.iload_n 2, 1) := by decide +kernel
theorem dX12_mean_46 : decode cX12_mean 46 = .ok (.invokevirtual 398, 3) := by decide +kernel
theorem dX12_mean_49 : decode cX12_mean 49 = .ok (.i2l, 1) := by decide +kernel
theorem dX12_mean_50 : decode cX12_mean 50 = .ok (.iload 5, 2) := by decide +kernel
theorem dX12_mean_52 : decode cX12_mean 52 = .ok (.invokestatic 376, 3) := by decide +kernel
theorem dX12_mean_55 : decode cX12_mean 55 = .ok (.lreturn, 1) := by decide +kernel
abbrev M_X12_mean : MI := (RX12, cX12_mean, 6, (some .long), ({ frames := 8, cells := 0, slots := 0, locals := 205 } : Room), 0, 0, false)
def f_X12_mean (h : AH) (N : Nat) (p0 : Nat) (p1 : Int32) (p2 : Int32) (p3 : Int32) (p4 : Int32) (p5 : Int32) : Option Int64 := if kd h p0 = 13 + 1 then (f_X12_isAsked h p0 p1 p2 p3 p4).bind fun v1 => (if v1 = 0 then some (-9223372036854775808) else (f_X12_in h p5 0 1).bind fun v3 => (if v3 = 0 then some (-9223372036854775808) else (f_X12_knowns h N p0 p2).bind fun v5 => (if v5 = 0 then some (-9223372036854775808) else (f_X12_paid h N p0 p1 p2 p3 p4).bind fun v7 => (f_X12_knowns h N p0 p2).bind fun v8 => (f_X12_part h N (v7 : Int32).toInt64 (v8 : Int32).toInt64 p5).bind fun v9 => some v9))) else none
theorem g_X12_mean {h : AH} {N : Nat} {p0 : Nat} {p1 : Int32} {p2 : Int32} {p3 : Int32} {p4 : Int32} {p5 : Int32} {x : Int64} (e : f_X12_mean h N p0 p1 p2 p3 p4 p5 = some x) : kd h p0 = 13 + 1 := by
  unfold f_X12_mean at e
  by_cases hk : kd h p0 = 13 + 1
  · exact hk
  · rw [if_neg hk] at e
    cases e
theorem km_X12_mean : KM yX12_mean M_X12_mean 5 := ⟨in_tb 1705 (by decide +kernel) rfl, in_tb 9 (by decide +kernel) rfl, by decide +kernel, rfl, rfl⟩
theorem hm_X12_mean : M_X12_mean.2.2.2.2.2.1 = 0 ∧ M_X12_mean.2.2.2.2.2.2.1 = 0 := ⟨rfl, rfl⟩
section
variable {l : Launch} {g : GG}
end
set_option maxRecDepth 100000 in
set_option maxHeartbeats 4000000 in
theorem c_X12_mean (l : Launch) (g : GG) (h : AH) (N : Nat) (p0 : Nat) (p1 : Int32) (p2 : Int32) (p3 : Int32) (p4 : Int32) (p5 : Int32) : CN l g yX12_mean M_X12_mean false [.ref p0, .int p1, .int p2, .int p3, .int p4, .int p5] h ((rPl h)) (f_X12_mean h N p0 p1 p2 p3 p4 p5) := by
  refine CN.of (by decide) rfl (fun hh => by first | rfl | cases hh) (Nat.le_of_ble_eq_true rfl) ?_
  unfold f_X12_mean
  refine a_gd (fun hkd => ?_)
  refine a_aload_n dX12_mean_0 rfl 0 rfl ?_
  refine a_iload_n dX12_mean_1 rfl 1 rfl ?_
  refine a_iload_n dX12_mean_2 rfl 2 rfl ?_
  refine a_iload_n dX12_mean_3 rfl 3 rfl ?_
  refine a_iload dX12_mean_4 4 rfl ?_
  refine a_cV_Pi (r := p0) (ci := 13) (as := [.int p1, .int p2, .int p3, .int p4]) (st := []) dX12_mean_6 (c_X12_isAsked l g h p0 p1 p2 p3 p4) rfl km_X12_isAsked (hm_X12_isAsked) rfl (by decide) rfl (fun _ ee => g_X12_isAsked ee) w_methodLink_RainCoverModel_395 w_instanceMethod_RainCoverModel_isAsked__IIII_Z w_selects_RainCoverModel_RainCoverModel_isAsked__IIII_Z_RainCoverModel_isAsked__IIII_Z ⟨⟨by decide, by decide⟩, ⟨by decide, by decide⟩⟩ (Nat.le_of_ble_eq_true rfl) (fun v1 => ?_)
  refine a_if_eq 30 dX12_mean_9 (by decide) (fun c2 => ?_) (fun c2 => ?_)
  · refine a_ldc2 (v := (-9223372036854775808)) dX12_mean_30 w_constantLong_RainCoverModel_374 ?_
    exact a_lret dX12_mean_33 rfl rfl (by decide) (by decide)
  · refine a_iload dX12_mean_12 5 rfl ?_
    refine a_iconst (v := 0) dX12_mean_14 (by decide) ?_
    refine a_iconst (v := 1) dX12_mean_15 (by decide) ?_
    refine a_cS_Pi (as := [.int p5, .int 0, .int 1]) (st := []) dX12_mean_16 (c_X12_in l g h p5 0 1) rfl km_X12_in (hm_X12_in) w_methodLink_RainCoverModel_204 w_static_RainCoverModel_in__III_Z ⟨⟨by decide, by decide⟩, ⟨by decide, by decide⟩⟩ (Nat.le_of_ble_eq_true rfl) (fun v3 => ?_)
    refine a_if_eq 30 dX12_mean_19 (by decide) (fun c4 => ?_) (fun c4 => ?_)
    · refine a_ldc2 (v := (-9223372036854775808)) dX12_mean_30 w_constantLong_RainCoverModel_374 ?_
      exact a_lret dX12_mean_33 rfl rfl (by decide) (by decide)
    · refine a_aload_n dX12_mean_22 rfl 0 rfl ?_
      refine a_iload_n dX12_mean_23 rfl 2 rfl ?_
      refine a_cV_Pi (r := p0) (ci := 13) (as := [.int p2]) (st := []) dX12_mean_24 (c_X12_knowns l g h N p0 p2) rfl km_X12_knowns (hm_X12_knowns) rfl (by decide) rfl (fun _ ee => g_X12_knowns ee) w_methodLink_RainCoverModel_398 w_instanceMethod_RainCoverModel_knowns__I_I w_selects_RainCoverModel_RainCoverModel_knowns__I_I_RainCoverModel_knowns__I_I ⟨⟨by decide, by decide⟩, ⟨by decide, by decide⟩⟩ (Nat.le_of_ble_eq_true rfl) (fun v5 => ?_)
      refine a_if_ne 34 dX12_mean_27 (by decide) (fun c6 => ?_) (fun c6 => ?_)
      · refine a_ldc2 (v := (-9223372036854775808)) dX12_mean_30 w_constantLong_RainCoverModel_374 ?_
        exact a_lret dX12_mean_33 rfl rfl (by decide) (by decide)
      · refine a_aload_n dX12_mean_34 rfl 0 rfl ?_
        refine a_iload_n dX12_mean_35 rfl 1 rfl ?_
        refine a_iload_n dX12_mean_36 rfl 2 rfl ?_
        refine a_iload_n dX12_mean_37 rfl 3 rfl ?_
        refine a_iload dX12_mean_38 4 rfl ?_
        refine a_cV_Pi (r := p0) (ci := 13) (as := [.int p1, .int p2, .int p3, .int p4]) (st := []) dX12_mean_40 (c_X12_paid l g h N p0 p1 p2 p3 p4) rfl km_X12_paid (hm_X12_paid) rfl (by decide) rfl (fun _ ee => g_X12_paid ee) w_methodLink_RainCoverModel_401 w_instanceMethod_RainCoverModel_paid__IIII_I w_selects_RainCoverModel_RainCoverModel_paid__IIII_I_RainCoverModel_paid__IIII_I ⟨⟨by decide, by decide⟩, ⟨by decide, by decide⟩⟩ (Nat.le_of_ble_eq_true rfl) (fun v7 => ?_)
        refine a_i2l dX12_mean_43 ?_
        refine a_aload_n dX12_mean_44 rfl 0 rfl ?_
        refine a_iload_n dX12_mean_45 rfl 2 rfl ?_
        refine a_cV_Pi (r := p0) (ci := 13) (as := [.int p2]) (st := [.long (v7 : Int32).toInt64]) dX12_mean_46 (c_X12_knowns l g h N p0 p2) rfl km_X12_knowns (hm_X12_knowns) rfl (by decide) rfl (fun _ ee => g_X12_knowns ee) w_methodLink_RainCoverModel_398 w_instanceMethod_RainCoverModel_knowns__I_I w_selects_RainCoverModel_RainCoverModel_knowns__I_I_RainCoverModel_knowns__I_I ⟨⟨by decide, by decide⟩, ⟨by decide, by decide⟩⟩ (Nat.le_of_ble_eq_true rfl) (fun v8 => ?_)
        refine a_i2l dX12_mean_49 ?_
        refine a_iload dX12_mean_50 5 rfl ?_
        refine a_cS_Pl (as := [.long (v7 : Int32).toInt64, .long (v8 : Int32).toInt64, .int p5]) (st := []) dX12_mean_52 (c_X12_part l g h N (v7 : Int32).toInt64 (v8 : Int32).toInt64 p5) rfl km_X12_part (hm_X12_part) w_methodLink_RainCoverModel_376 w_static_RainCoverModel_part__JJI_J ⟨⟨by decide, by decide⟩, ⟨by decide, by decide⟩⟩ (Nat.le_of_ble_eq_true rfl) (fun v9 => ?_)
        exact a_lret dX12_mean_55 rfl rfl (by decide) (by decide)
theorem dX12_priceOf_0 : decode cX12_priceOf 0 = .ok (.bipush 100, 2) := by decide +kernel
theorem dX12_priceOf_2 : decode cX12_priceOf 2 = .ok (.aload_n 0, 1) := by decide +kernel
theorem dX12_priceOf_3 : decode cX12_priceOf 3 = .ok (.iload_n 2, 1) := by decide +kernel
theorem dX12_priceOf_4 : decode cX12_priceOf 4 = .ok (.invokevirtual 398, 3) := by decide +kernel
theorem dX12_priceOf_7 : decode cX12_priceOf 7 = .ok (.imul, 1) := by decide +kernel
theorem dX12_priceOf_8 : decode cX12_priceOf 8 = .ok (.istore 5, 2) := by decide +kernel
theorem dX12_priceOf_10 : decode cX12_priceOf 10 = .ok (.iload 5, 2) := by decide +kernel
theorem dX12_priceOf_12 : decode cX12_priceOf 12 = .ok (.ifCond .ne 7, 3) := by decide +kernel
theorem dX12_priceOf_15 : decode cX12_priceOf 15 = .ok (.iconst 0, 1) := by decide +kernel
theorem dX12_priceOf_16 : decode cX12_priceOf 16 = .ok (.goto 30, 3) := by decide +kernel
theorem dX12_priceOf_19 : decode cX12_priceOf 19 = .ok (.aload_n 0, 1) := by decide +kernel
theorem dX12_priceOf_20 : decode cX12_priceOf 20 = .ok (.iload_n 1, 1) := by decide +kernel
theorem dX12_priceOf_21 : decode cX12_priceOf 21 = .ok (.iload_n 2, 1) := by decide +kernel
theorem dX12_priceOf_22 : decode cX12_priceOf 22 = .ok (.iload_n 3, 1) := by decide +kernel
theorem dX12_priceOf_23 : decode cX12_priceOf 23 = .ok (.iload 4, 2) := by decide +kernel
theorem dX12_priceOf_25 : decode cX12_priceOf 25 = .ok (.invokevirtual 401, 3) := by decide +kernel
theorem dX12_priceOf_28 : decode cX12_priceOf 28 = .ok (.bipush 100, 2) := by decide +kernel
theorem dX12_priceOf_30 : decode cX12_priceOf 30 = .ok (.aload_n 0, 1) := by decide +kernel
theorem dX12_priceOf_31 : decode cX12_priceOf 31 = .ok (.getfield 24, 3) := by decide +kernel
theorem dX12_priceOf_34 : decode cX12_priceOf 34 = .ok (.iconst 2, 1) := by decide +kernel
theorem dX12_priceOf_35 : decode cX12_priceOf 35 = .ok (.iaload, 1) := by decide +kernel
theorem dX12_priceOf_36 : decode cX12_priceOf 36 = .ok (.iadd, 1) := by decide +kernel
theorem dX12_priceOf_37 : decode cX12_priceOf 37 = .ok (.imul, 1) := by decide +kernel
theorem dX12_priceOf_38 : decode cX12_priceOf 38 = .ok (.iload 5, 2) := by decide +kernel
theorem dX12_priceOf_40 : decode cX12_priceOf 40 = .ok (.iadd, 1) := by decide +kernel
theorem dX12_priceOf_41 : decode cX12_priceOf 41 = .ok (.iconst 1, 1) := by decide +kernel
theorem dX12_priceOf_42 : decode cX12_priceOf 42 = .ok (.isub, 1) := by decide +kernel
theorem dX12_priceOf_43 : decode cX12_priceOf 43 = .ok (.iload 5, 2) := by decide +kernel
theorem dX12_priceOf_45 : decode cX12_priceOf 45 = .ok (.idiv, 1) := by decide +kernel
theorem dX12_priceOf_46 : decode cX12_priceOf 46 = .ok (.ireturn, 1) := by decide +kernel
abbrev M_X12_priceOf : MI := (RX12, cX12_priceOf, 6, (some .int), ({ frames := 8, cells := 0, slots := 0, locals := 205 } : Room), 0, 0, false)
def f_X12_priceOf (h : AH) (N : Nat) (p0 : Nat) (p1 : Int32) (p2 : Int32) (p3 : Int32) (p4 : Int32) : Option Int32 := if kd h p0 = 13 + 1 then (f_X12_knowns h N p0 p2).bind fun v1 => (if (100 * v1) = 0 then some 0 else (f_X12_paid h N p0 p1 p2 p3 p4).bind fun v3 => (xgr h p0 13 5).bind fun v4 => (xia h v4 2).bind fun v5 => (if (100 * v1) = 0 then none else some ((((v3 * (100 + v5)) + (100 * v1)) - 1) / (100 * v1)))) else none
theorem g_X12_priceOf {h : AH} {N : Nat} {p0 : Nat} {p1 : Int32} {p2 : Int32} {p3 : Int32} {p4 : Int32} {x : Int32} (e : f_X12_priceOf h N p0 p1 p2 p3 p4 = some x) : kd h p0 = 13 + 1 := by
  unfold f_X12_priceOf at e
  by_cases hk : kd h p0 = 13 + 1
  · exact hk
  · rw [if_neg hk] at e
    cases e
theorem km_X12_priceOf : KM yX12_priceOf M_X12_priceOf 4 := ⟨in_tb 1729 (by decide +kernel) rfl, in_tb 9 (by decide +kernel) rfl, by decide +kernel, rfl, rfl⟩
theorem hm_X12_priceOf : M_X12_priceOf.2.2.2.2.2.1 = 0 ∧ M_X12_priceOf.2.2.2.2.2.2.1 = 0 := ⟨rfl, rfl⟩
section
variable {l : Launch} {g : GG}
end
set_option maxRecDepth 100000 in
set_option maxHeartbeats 4000000 in
theorem c_X12_priceOf (l : Launch) (g : GG) (h : AH) (N : Nat) (p0 : Nat) (p1 : Int32) (p2 : Int32) (p3 : Int32) (p4 : Int32) : CN l g yX12_priceOf M_X12_priceOf false [.ref p0, .int p1, .int p2, .int p3, .int p4] h ((rPi h)) (f_X12_priceOf h N p0 p1 p2 p3 p4) := by
  refine CN.of (by decide) rfl (fun hh => by first | rfl | cases hh) (Nat.le_of_ble_eq_true rfl) ?_
  unfold f_X12_priceOf
  refine a_gd (fun hkd => ?_)
  refine a_bipush (v := 100) dX12_priceOf_0 (by decide) ?_
  refine a_aload_n dX12_priceOf_2 rfl 0 rfl ?_
  refine a_iload_n dX12_priceOf_3 rfl 2 rfl ?_
  refine a_cV_Pi (r := p0) (ci := 13) (as := [.int p2]) (st := [.int 100]) dX12_priceOf_4 (c_X12_knowns l g h N p0 p2) rfl km_X12_knowns (hm_X12_knowns) rfl (by decide) rfl (fun _ ee => g_X12_knowns ee) w_methodLink_RainCoverModel_398 w_instanceMethod_RainCoverModel_knowns__I_I w_selects_RainCoverModel_RainCoverModel_knowns__I_I_RainCoverModel_knowns__I_I ⟨⟨by decide, by decide⟩, ⟨by decide, by decide⟩⟩ (Nat.le_of_ble_eq_true rfl) (fun v1 => ?_)
  refine a_imul dX12_priceOf_7 ?_
  refine a_istore (lc2 := [(5, .int (100 * v1)), (0, .ref p0), (1, .int p1), (2, .int p2), (3, .int p3), (4, .int p4)]) dX12_priceOf_8 (by decide) rfl ?_
  refine a_iload dX12_priceOf_10 0 rfl ?_
  refine a_if_ne 19 dX12_priceOf_12 (by decide) (fun c2 => ?_) (fun c2 => ?_)
  · refine a_iconst (v := 0) dX12_priceOf_15 (by decide) ?_
    refine a_goto 46 dX12_priceOf_16 (by decide) ?_
    exact a_iret dX12_priceOf_46 rfl rfl (by decide) (by decide)
  · refine a_aload_n dX12_priceOf_19 rfl 1 rfl ?_
    refine a_iload_n dX12_priceOf_20 rfl 2 rfl ?_
    refine a_iload_n dX12_priceOf_21 rfl 3 rfl ?_
    refine a_iload_n dX12_priceOf_22 rfl 4 rfl ?_
    refine a_iload dX12_priceOf_23 5 rfl ?_
    refine a_cV_Pi (r := p0) (ci := 13) (as := [.int p1, .int p2, .int p3, .int p4]) (st := []) dX12_priceOf_25 (c_X12_paid l g h N p0 p1 p2 p3 p4) rfl km_X12_paid (hm_X12_paid) rfl (by decide) rfl (fun _ ee => g_X12_paid ee) w_methodLink_RainCoverModel_401 w_instanceMethod_RainCoverModel_paid__IIII_I w_selects_RainCoverModel_RainCoverModel_paid__IIII_I_RainCoverModel_paid__IIII_I ⟨⟨by decide, by decide⟩, ⟨by decide, by decide⟩⟩ (Nat.le_of_ble_eq_true rfl) (fun v3 => ?_)
    refine a_bipush (v := 100) dX12_priceOf_28 (by decide) ?_
    refine a_aload_n dX12_priceOf_30 rfl 1 rfl ?_
    refine a_getr kc13 5 dX12_priceOf_31 (by decide) rfl w_fieldLink_RainCoverModel_24 (fun v4 => ?_)
    refine a_iconst (v := 2) dX12_priceOf_34 (by decide) ?_
    refine a_iald dX12_priceOf_35 (fun v5 => ?_)
    refine a_iadd dX12_priceOf_36 ?_
    refine a_imul dX12_priceOf_37 ?_
    refine a_iload dX12_priceOf_38 0 rfl ?_
    refine a_iadd dX12_priceOf_40 ?_
    refine a_iconst (v := 1) dX12_priceOf_41 (by decide) ?_
    refine a_isub dX12_priceOf_42 ?_
    refine a_iload dX12_priceOf_43 0 rfl ?_
    refine a_idiv dX12_priceOf_45 (fun c6 => ?_)
    exact a_iret dX12_priceOf_46 rfl rfl (by decide) (by decide)
theorem dX12_price_0 : decode cX12_price 0 = .ok (.aload_n 0, 1) := by decide +kernel
theorem dX12_price_1 : decode cX12_price 1 = .ok (.iload_n 1, 1) := by decide +kernel
theorem dX12_price_2 : decode cX12_price 2 = .ok (.iload_n 2, 1) := by decide +kernel
theorem dX12_price_3 : decode cX12_price 3 = .ok (.iload_n 3, 1) := by decide +kernel
theorem dX12_price_4 : decode cX12_price 4 = .ok (.iload 4, 2) := by decide +kernel
theorem dX12_price_6 : decode cX12_price 6 = .ok (.invokevirtual 395, 3) := by decide +kernel
theorem dX12_price_9 : decode cX12_price 9 = .ok (.ifCond .eq 13, 3) := by decide +kernel
theorem dX12_price_12 : decode cX12_price 12 = .ok (.iload 5, 2) := by decide +kernel
theorem dX12_price_14 : decode cX12_price 14 = .ok (.iconst 0, 1) := by decide +kernel
theorem dX12_price_15 : decode cX12_price 15 = .ok (.iconst 2, 1) := by decide +kernel
theorem dX12_price_16 : decode cX12_price 16 = .ok (.invokestatic 204, 3) := by decide +kernel
theorem dX12_price_19 : decode cX12_price 19 = .ok (.ifCond .ne 5, 3) := by decide +kernel
theorem dX12_price_22 : decode cX12_price 22 = .ok (.iconst (-1), 1) := by decide +kernel
theorem dX12_price_23 : decode cX12_price 23 = .ok (.ireturn, 1) := by decide +kernel
theorem dX12_price_24 : decode cX12_price 24 = .ok (.iload 5, 2) := by decide +kernel
theorem dX12_price_26 : decode cX12_price 26 = .ok (.iconst 2, 1) := by decide +kernel
theorem dX12_price_27 : decode cX12_price 27 = .ok (.if_icmp .ne 9, 3) := by decide +kernel
theorem dX12_price_30 : decode cX12_price 30 = .ok (.aload_n 0, 1) := by decide +kernel
theorem dX12_price_31 : decode cX12_price 31 = .ok (.iload_n 2, 1) := by decide +kernel
theorem dX12_price_32 : decode cX12_price 32 = .ok (.invokevirtual 398, 3) := by decide +kernel
theorem dX12_price_35 : decode cX12_price 35 = .ok (.ireturn, 1) := by decide +kernel
theorem dX12_price_36 : decode cX12_price 36 = .ok (.aload_n 0, 1) := by decide +kernel
theorem dX12_price_37 : decode cX12_price 37 = .ok (.iload_n 1, 1) := by decide +kernel
theorem dX12_price_38 : decode cX12_price 38 = .ok (.iload_n 2, 1) := by decide +kernel
theorem dX12_price_39 : decode cX12_price 39 = .ok (.iload_n 3, 1) := by decide +kernel
theorem dX12_price_40 : decode cX12_price 40 = .ok (.iload 4, 2) := by decide +kernel
theorem dX12_price_42 : decode cX12_price 42 = .ok (.invokevirtual 404, 3) := by decide +kernel
theorem dX12_price_45 : decode cX12_price 45 = .ok (.istore 6, 2) := by decide +kernel
theorem dX12_price_47 : decode cX12_price 47 = .ok (.iload 5, 2) := by decide +kernel
theorem dX12_price_49 : decode cX12_price 49 = .ok (.ifCond .ne 8, 3) := by decide +kernel
theorem dX12_price_52 : decode cX12_price 52 = .ok (.iload 6, 2) := by decide +kernel
theorem dX12_price_54 : decode cX12_price 54 = .ok (.goto 21, 3) := by decide +kernel
theorem dX12_price_57 : decode cX12_price 57 = .ok (.iload 6, 2) := by decide +kernel
theorem dX12_price_59 : decode cX12_price 59 = .ok (.bipush 100, 2) := by decide +kernel
theorem dX12_price_61 : decode cX12_price 61 = .ok (.aload_n 0, 1) := by decide +kernel
theorem dX12_price_62 : decode cX12_price 62 = .ok (.getfield 24, 3) := by decide +kernel
theorem dX12_price_65 : decode cX12_price 65 = .ok (.iconst 3, 1) := by decide +kernel
theorem dX12_price_66 : decode cX12_price 66 = .ok (.iaload, 1) := by decide +kernel
theorem dX12_price_67 : decode cX12_price 67 = .ok (.isub, 1) := by decide +kernel
theorem dX12_price_68 : decode cX12_price 68 = .ok (.imul, 1) := by decide +kernel
theorem dX12_price_69 : decode cX12_price 69 = .ok (.bipush 99, 2) := by decide +kernel
theorem dX12_price_71 : decode cX12_price 71 = .ok (.iadd, 1) := by decide +kernel
theorem dX12_price_72 : decode cX12_price 72 = .ok (.bipush 100, 2) := by decide +kernel
theorem dX12_price_74 : decode cX12_price 74 = .ok (.idiv, 1) := by decide +kernel
theorem dX12_price_75 : decode cX12_price 75 = .ok (.ireturn, 1) := by decide +kernel
abbrev M_X12_price : MI := (RX12, cX12_price, 7, (some .int), ({ frames := 9, cells := 0, slots := 0, locals := 230 } : Room), 0, 0, false)
def f_X12_price (h : AH) (N : Nat) (p0 : Nat) (p1 : Int32) (p2 : Int32) (p3 : Int32) (p4 : Int32) (p5 : Int32) : Option Int32 := if kd h p0 = 13 + 1 then (f_X12_isAsked h p0 p1 p2 p3 p4).bind fun v1 => (if v1 = 0 then some (-1) else (f_X12_in h p5 0 2).bind fun v3 => (if v3 = 0 then some (-1) else (if p5 = 2 then (f_X12_knowns h N p0 p2).bind fun v6 => some v6 else (f_X12_priceOf h N p0 p1 p2 p3 p4).bind fun v7 => (if p5 = 0 then some v7 else (xgr h p0 13 5).bind fun v9 => (xia h v9 3).bind fun v10 => (if 100 = 0 then none else some (((v7 * (100 - v10)) + 99) / 100)))))) else none
theorem g_X12_price {h : AH} {N : Nat} {p0 : Nat} {p1 : Int32} {p2 : Int32} {p3 : Int32} {p4 : Int32} {p5 : Int32} {x : Int32} (e : f_X12_price h N p0 p1 p2 p3 p4 p5 = some x) : kd h p0 = 13 + 1 := by
  unfold f_X12_price at e
  by_cases hk : kd h p0 = 13 + 1
  · exact hk
  · rw [if_neg hk] at e
    cases e
theorem km_X12_price : KM yX12_price M_X12_price 5 := ⟨in_tb 1725 (by decide +kernel) rfl, in_tb 9 (by decide +kernel) rfl, by decide +kernel, rfl, rfl⟩
theorem hm_X12_price : M_X12_price.2.2.2.2.2.1 = 0 ∧ M_X12_price.2.2.2.2.2.2.1 = 0 := ⟨rfl, rfl⟩
section
variable {l : Launch} {g : GG}
end
set_option maxRecDepth 100000 in
set_option maxHeartbeats 4000000 in
theorem c_X12_price (l : Launch) (g : GG) (h : AH) (N : Nat) (p0 : Nat) (p1 : Int32) (p2 : Int32) (p3 : Int32) (p4 : Int32) (p5 : Int32) : CN l g yX12_price M_X12_price false [.ref p0, .int p1, .int p2, .int p3, .int p4, .int p5] h ((rPi h)) (f_X12_price h N p0 p1 p2 p3 p4 p5) := by
  refine CN.of (by decide) rfl (fun hh => by first | rfl | cases hh) (Nat.le_of_ble_eq_true rfl) ?_
  unfold f_X12_price
  refine a_gd (fun hkd => ?_)
  refine a_aload_n dX12_price_0 rfl 0 rfl ?_
  refine a_iload_n dX12_price_1 rfl 1 rfl ?_
  refine a_iload_n dX12_price_2 rfl 2 rfl ?_
  refine a_iload_n dX12_price_3 rfl 3 rfl ?_
  refine a_iload dX12_price_4 4 rfl ?_
  refine a_cV_Pi (r := p0) (ci := 13) (as := [.int p1, .int p2, .int p3, .int p4]) (st := []) dX12_price_6 (c_X12_isAsked l g h p0 p1 p2 p3 p4) rfl km_X12_isAsked (hm_X12_isAsked) rfl (by decide) rfl (fun _ ee => g_X12_isAsked ee) w_methodLink_RainCoverModel_395 w_instanceMethod_RainCoverModel_isAsked__IIII_Z w_selects_RainCoverModel_RainCoverModel_isAsked__IIII_Z_RainCoverModel_isAsked__IIII_Z ⟨⟨by decide, by decide⟩, ⟨by decide, by decide⟩⟩ (Nat.le_of_ble_eq_true rfl) (fun v1 => ?_)
  refine a_if_eq 22 dX12_price_9 (by decide) (fun c2 => ?_) (fun c2 => ?_)
  · refine a_iconst (v := (-1)) dX12_price_22 (by decide) ?_
    exact a_iret dX12_price_23 rfl rfl (by decide) (by decide)
  · refine a_iload dX12_price_12 5 rfl ?_
    refine a_iconst (v := 0) dX12_price_14 (by decide) ?_
    refine a_iconst (v := 2) dX12_price_15 (by decide) ?_
    refine a_cS_Pi (as := [.int p5, .int 0, .int 2]) (st := []) dX12_price_16 (c_X12_in l g h p5 0 2) rfl km_X12_in (hm_X12_in) w_methodLink_RainCoverModel_204 w_static_RainCoverModel_in__III_Z ⟨⟨by decide, by decide⟩, ⟨by decide, by decide⟩⟩ (Nat.le_of_ble_eq_true rfl) (fun v3 => ?_)
    refine a_if_ne 24 dX12_price_19 (by decide) (fun c4 => ?_) (fun c4 => ?_)
    · refine a_iconst (v := (-1)) dX12_price_22 (by decide) ?_
      exact a_iret dX12_price_23 rfl rfl (by decide) (by decide)
    · refine a_iload dX12_price_24 5 rfl ?_
      refine a_iconst (v := 2) dX12_price_26 (by decide) ?_
      refine a_icmp_ne 36 dX12_price_27 (by decide) (fun c5 => ?_) (fun c5 => ?_)
      · refine a_aload_n dX12_price_30 rfl 0 rfl ?_
        refine a_iload_n dX12_price_31 rfl 2 rfl ?_
        refine a_cV_Pi (r := p0) (ci := 13) (as := [.int p2]) (st := []) dX12_price_32 (c_X12_knowns l g h N p0 p2) rfl km_X12_knowns (hm_X12_knowns) rfl (by decide) rfl (fun _ ee => g_X12_knowns ee) w_methodLink_RainCoverModel_398 w_instanceMethod_RainCoverModel_knowns__I_I w_selects_RainCoverModel_RainCoverModel_knowns__I_I_RainCoverModel_knowns__I_I ⟨⟨by decide, by decide⟩, ⟨by decide, by decide⟩⟩ (Nat.le_of_ble_eq_true rfl) (fun v6 => ?_)
        exact a_iret dX12_price_35 rfl rfl (by decide) (by decide)
      · refine a_aload_n dX12_price_36 rfl 0 rfl ?_
        refine a_iload_n dX12_price_37 rfl 1 rfl ?_
        refine a_iload_n dX12_price_38 rfl 2 rfl ?_
        refine a_iload_n dX12_price_39 rfl 3 rfl ?_
        refine a_iload dX12_price_40 4 rfl ?_
        refine a_cV_Pi (r := p0) (ci := 13) (as := [.int p1, .int p2, .int p3, .int p4]) (st := []) dX12_price_42 (c_X12_priceOf l g h N p0 p1 p2 p3 p4) rfl km_X12_priceOf (hm_X12_priceOf) rfl (by decide) rfl (fun _ ee => g_X12_priceOf ee) w_methodLink_RainCoverModel_404 w_instanceMethod_RainCoverModel_priceOf__IIII_I w_selects_RainCoverModel_RainCoverModel_priceOf__IIII_I_RainCoverModel_priceOf__IIII_I ⟨⟨by decide, by decide⟩, ⟨by decide, by decide⟩⟩ (Nat.le_of_ble_eq_true rfl) (fun v7 => ?_)
        refine a_istore (lc2 := [(6, .int v7), (0, .ref p0), (1, .int p1), (2, .int p2), (3, .int p3), (4, .int p4), (5, .int p5)]) dX12_price_45 (by decide) rfl ?_
        refine a_iload dX12_price_47 6 rfl ?_
        refine a_if_ne 57 dX12_price_49 (by decide) (fun c8 => ?_) (fun c8 => ?_)
        · refine a_iload dX12_price_52 0 rfl ?_
          refine a_goto 75 dX12_price_54 (by decide) ?_
          exact a_iret dX12_price_75 rfl rfl (by decide) (by decide)
        · refine a_iload dX12_price_57 0 rfl ?_
          refine a_bipush (v := 100) dX12_price_59 (by decide) ?_
          refine a_aload_n dX12_price_61 rfl 1 rfl ?_
          refine a_getr kc13 5 dX12_price_62 (by decide) rfl w_fieldLink_RainCoverModel_24 (fun v9 => ?_)
          refine a_iconst (v := 3) dX12_price_65 (by decide) ?_
          refine a_iald dX12_price_66 (fun v10 => ?_)
          refine a_isub dX12_price_67 ?_
          refine a_imul dX12_price_68 ?_
          refine a_bipush (v := 99) dX12_price_69 (by decide) ?_
          refine a_iadd dX12_price_71 ?_
          refine a_bipush (v := 100) dX12_price_72 (by decide) ?_
          refine a_idiv dX12_price_74 (fun c11 => ?_)
          exact a_iret dX12_price_75 rfl rfl (by decide) (by decide)
theorem dX12_trend_0 : decode cX12_trend 0 = .ok (.aload_n 0, 1) := by decide +kernel
theorem dX12_trend_1 : decode cX12_trend 1 = .ok (.iload_n 1, 1) := by decide +kernel
theorem dX12_trend_2 : decode cX12_trend 2 = .ok (.iload_n 2, 1) := by decide +kernel
theorem dX12_trend_3 : decode cX12_trend 3 = .ok (.iload_n 3, 1) := by decide +kernel
theorem dX12_trend_4 : decode cX12_trend 4 = .ok (.iload 4, 2) := by decide +kernel
theorem dX12_trend_6 : decode cX12_trend 6 = .ok (.invokevirtual 395, 3) := by decide +kernel
theorem dX12_trend_9 : decode cX12_trend 9 = .ok (.ifCond .eq 13, 3) := by decide +kernel
theorem dX12_trend_12 : decode cX12_trend 12 = .ok (.iload 5, 2) := by decide +kernel
theorem dX12_trend_14 : decode cX12_trend 14 = .ok (.iconst 0, 1) := by decide +kernel
theorem dX12_trend_15 : decode cX12_trend 15 = .ok (.iconst 1, 1) := by decide +kernel
theorem dX12_trend_16 : decode cX12_trend 16 = .ok (.invokestatic 204, 3) := by decide +kernel
theorem dX12_trend_19 : decode cX12_trend 19 = .ok (.ifCond .ne 7, 3) := by decide +kernel
theorem dX12_trend_22 : decode cX12_trend 22 = .ok (.ldc2_w 374, 3) := by decide +kernel
theorem dX12_trend_25 : decode cX12_trend 25 = .ok (.lreturn, 1) := by decide +kernel
theorem dX12_trend_26 : decode cX12_trend 26 = .ok (.lconst 0, 1) := by decide +kernel
theorem dX12_trend_27 : decode cX12_trend 27 = .ok (.lstore 6, 2) := by decide +kernel
theorem dX12_trend_29 : decode cX12_trend 29 = .ok (.lconst 0, 1) := by decide +kernel
theorem dX12_trend_30 : decode cX12_trend 30 = .ok (.lstore 8, 2) := by decide +kernel
theorem dX12_trend_32 : decode cX12_trend 32 = .ok (.lconst 0, 1) := by decide +kernel
theorem dX12_trend_33 : decode cX12_trend 33 = .ok (.lstore 10, 2) := by decide +kernel
theorem dX12_trend_35 : decode cX12_trend 35 = .ok (.lconst 0, 1) := by decide +kernel
theorem dX12_trend_36 : decode cX12_trend 36 = .ok (.lstore 12, 2) := by decide +kernel
theorem dX12_trend_38 : decode cX12_trend 38 = .ok (.lconst 0, 1) := by decide +kernel
theorem dX12_trend_39 : decode cX12_trend 39 = .ok (.lstore 14, 2) := by decide +kernel
theorem dX12_trend_41 : decode cX12_trend 41 = .ok (.iconst 0, 1) := by decide +kernel
theorem dX12_trend_42 : decode cX12_trend 42 = .ok (.istore 16, 2) := by decide +kernel
theorem dX12_trend_44 : decode cX12_trend 44 = .ok (.iload 16, 2) := by decide +kernel
theorem dX12_trend_46 : decode cX12_trend 46 = .ok (.bipush 16, 2) := by decide +kernel
theorem dX12_trend_48 : decode cX12_trend 48 = .ok (.if_icmp .ge 77, 3) := by decide +kernel
theorem dX12_trend_51 : decode cX12_trend 51 = .ok (.aload_n 0, 1) := by decide +kernel
theorem dX12_trend_52 : decode cX12_trend 52 = .ok (.iload_n 2, 1) := by decide +kernel
theorem dX12_trend_53 : decode cX12_trend 53 = .ok (.iload 16, 2) := by decide +kernel
theorem dX12_trend_55 : decode cX12_trend 55 = .ok (.invokevirtual 392, 3) := by decide +kernel
theorem dX12_trend_58 : decode cX12_trend 58 = .ok (.ifCond .eq 61, 3) := by decide +kernel
theorem dX12_trend_61 : decode cX12_trend 61 = .ok (.aload_n 0, 1) := by decide +kernel
theorem dX12_trend_62 : decode cX12_trend 62 = .ok (.iconst 0, 1) := by decide +kernel
theorem dX12_trend_63 : decode cX12_trend 63 = .ok (.iload_n 1, 1) := by decide +kernel
theorem dX12_trend_64 : decode cX12_trend 64 = .ok (.iload_n 2, 1) := by decide +kernel
theorem dX12_trend_65 : decode cX12_trend 65 = .ok (.iload 16, 2) := by decide +kernel
theorem dX12_trend_67 : decode cX12_trend 67 = .ok (.iload_n 3, 1) := by decide +kernel
theorem dX12_trend_68 : decode cX12_trend 68 = .ok (.iload 4, 2) := by decide +kernel
theorem dX12_trend_70 : decode cX12_trend 70 = .ok (.invokevirtual 331, 3) := by decide +kernel
theorem dX12_trend_73 : decode cX12_trend 73 = .ok (.i2l, 1) := by decide +kernel
theorem dX12_trend_74 : decode cX12_trend 74 = .ok (.lstore 17, 2) := by decide +kernel
theorem dX12_trend_76 : decode cX12_trend 76 = .ok (.lload 6, 2) := by decide +kernel
theorem dX12_trend_78 : decode cX12_trend 78 = .ok (.lconst 1, 1) := by decide +kernel
theorem dX12_trend_79 : decode cX12_trend 79 = .ok (.ladd, 1) := by decide +kernel
theorem dX12_trend_80 : decode cX12_trend 80 = .ok (.lstore 6, 2) := by decide +kernel
theorem dX12_trend_82 : decode cX12_trend 82 = .ok (.lload 8, 2) := by decide +kernel
theorem dX12_trend_84 : decode cX12_trend 84 = .ok (.iload 16, 2) := by decide +kernel
theorem dX12_trend_86 : decode cX12_trend 86 = .ok (.i2l, 1) := by decide +kernel
theorem dX12_trend_87 : decode cX12_trend 87 = .ok (.ladd, 1) := by decide +kernel
theorem dX12_trend_88 : decode cX12_trend 88 = .ok (.lstore 8, 2) := by decide +kernel
theorem dX12_trend_90 : decode cX12_trend 90 = .ok (.lload 10, 2) := by decide +kernel
theorem dX12_trend_92 : decode cX12_trend 92 = .ok (.lload 17, 2) := by decide +kernel
theorem dX12_trend_94 : decode cX12_trend 94 = .ok (.ladd, 1) := by decide +kernel
theorem dX12_trend_95 : decode cX12_trend 95 = .ok (.lstore 10, 2) := by decide +kernel
theorem dX12_trend_97 : decode cX12_trend 97 = .ok (.lload 12, 2) := by decide +kernel
theorem dX12_trend_99 : decode cX12_trend 99 = .ok (.iload 16, 2) := by decide +kernel
theorem dX12_trend_101 : decode cX12_trend 101 = .ok (.i2l, 1) := by decide +kernel
theorem dX12_trend_102 : decode cX12_trend 102 = .ok (.lload 17, 2) := by decide +kernel
theorem dX12_trend_104 : decode cX12_trend 104 = .ok (.lmul, 1) := by decide +kernel
theorem dX12_trend_105 : decode cX12_trend 105 = .ok (.ladd, 1) := by decide +kernel
theorem dX12_trend_106 : decode cX12_trend 106 = .ok (.lstore 12, 2) := by decide +kernel
theorem dX12_trend_108 : decode cX12_trend 108 = .ok (.lload 14, 2) := by decide +kernel
theorem dX12_trend_110 : decode cX12_trend 110 = .ok (.iload 16, 2) := by decide +kernel
theorem dX12_trend_112 : decode cX12_trend 112 = .ok (.iload 16, 2) := by decide +kernel
theorem dX12_trend_114 : decode cX12_trend 114 = .ok (.imul, 1) := by decide +kernel
theorem dX12_trend_115 : decode cX12_trend 115 = .ok (.i2l, 1) := by decide +kernel
theorem dX12_trend_116 : decode cX12_trend 116 = .ok (.ladd, 1) := by decide +kernel
theorem dX12_trend_117 : decode cX12_trend 117 = .ok (.lstore 14, 2) := by decide +kernel
theorem dX12_trend_119 : decode cX12_trend 119 = .ok (.iinc 16 1, 3) := by decide +kernel
theorem dX12_trend_122 : decode cX12_trend 122 = .ok (.goto (-78), 3) := by decide +kernel
theorem dX12_trend_125 : decode cX12_trend 125 = .ok (.lload 6, 2) := by decide +kernel
theorem dX12_trend_127 : decode cX12_trend 127 = .ok (.ldc2_w 407, 3) := by decide +kernel
theorem dX12_trend_130 : decode cX12_trend 130 = .ok (.lcmp, 1) := by decide +kernel
theorem dX12_trend_131 : decode cX12_trend 131 = .ok (.ifCond .ge 9, 3) := by decide +kernel
theorem dX12_trend_134 : decode cX12_trend 134 = .ok (.ldc2_w 374, 3) := by decide +kernel
theorem dX12_trend_137 : decode cX12_trend 137 = .ok (.goto 30, 3) := by decide +kernel
theorem dX12_trend_140 : decode cX12_trend 140 = .ok (.lload 6, 2) := by decide +kernel
theorem dX12_trend_142 : decode cX12_trend 142 = .ok (.lload 12, 2) := by decide +kernel
theorem dX12_trend_144 : decode cX12_trend 144 = .ok (.lmul, 1) := by decide +kernel
theorem dX12_trend_145 : decode cX12_trend 145 = .ok (.lload 8, 2) := by decide +kernel
theorem dX12_trend_147 : decode cX12_trend 147 = .ok (.lload 10, 2) := by decide +kernel
theorem dX12_trend_149 : decode cX12_trend 149 = .ok (.lmul, 1) := by decide +kernel
theorem dX12_trend_150 : decode cX12_trend 150 = .ok (.lsub, 1) := by decide +kernel
theorem dX12_trend_151 : decode cX12_trend 151 = .ok (.lload 6, 2) := by decide +kernel
theorem dX12_trend_153 : decode cX12_trend 153 = .ok (.lload 14, 2) := by decide +kernel
theorem dX12_trend_155 : decode cX12_trend 155 = .ok (.lmul, 1) := by decide +kernel
theorem dX12_trend_156 : decode cX12_trend 156 = .ok (.lload 8, 2) := by decide +kernel
theorem dX12_trend_158 : decode cX12_trend 158 = .ok (.lload 8, 2) := by decide +kernel
theorem dX12_trend_160 : decode cX12_trend 160 = .ok (.lmul, 1) := by decide +kernel
theorem dX12_trend_161 : decode cX12_trend 161 = .ok (.lsub, 1) := by decide +kernel
theorem dX12_trend_162 : decode cX12_trend 162 = .ok (.iload 5, 2) := by decide +kernel
theorem dX12_trend_164 : decode cX12_trend 164 = .ok (.invokestatic 376, 3) := by decide +kernel
theorem dX12_trend_167 : decode cX12_trend 167 = .ok (.lreturn, 1) := by decide +kernel
abbrev M_X12_trend : MI := (RX12, cX12_trend, 19, (some .long), ({ frames := 7, cells := 0, slots := 0, locals := 179 } : Room), 0, 0, false)
def f_X12_trend_b119 (h : AH) (N : Nat) (K44 : Nat → Int32 → Int32 → Int32 → Int32 → Int32 → Int64 → Int64 → Int64 → Int64 → Int64 → Int32 → Option Int64) (x0 : Nat) (x1 : Int32) (x2 : Int32) (x3 : Int32) (x4 : Int32) (x5 : Int32) (x6 : Int64) (x8 : Int64) (x10 : Int64) (x12 : Int64) (x14 : Int64) (x16 : Int32) : Option Int64 := K44 x0 x1 x2 x3 x4 x5 x6 x8 x10 x12 x14 (x16 + 1)
def f_X12_trend_b44_body (h : AH) (N : Nat) (K44 : Nat → Int32 → Int32 → Int32 → Int32 → Int32 → Int64 → Int64 → Int64 → Int64 → Int64 → Int32 → Option Int64) (x0 : Nat) (x1 : Int32) (x2 : Int32) (x3 : Int32) (x4 : Int32) (x5 : Int32) (x6 : Int64) (x8 : Int64) (x10 : Int64) (x12 : Int64) (x14 : Int64) (x16 : Int32) : Option Int64 := (if 16 ≤ x16 then (if 0 ≤ (lg_cmp x6 2) then (f_X12_part h N ((x6 * x12) - (x8 * x10)) ((x6 * x14) - (x8 * x8)) x5).bind fun v7 => some v7 else some (-9223372036854775808)) else (f_X12_isKnown h N x0 x2 x16).bind fun v8 => (if v8 = 0 then f_X12_trend_b119 h N K44 x0 x1 x2 x3 x4 x5 x6 x8 x10 x12 x14 x16 else (f_X12_payOf h N x0 0 x1 x2 x16 x3 x4).bind fun v10 => f_X12_trend_b119 h N K44 x0 x1 x2 x3 x4 x5 (x6 + 1) (x8 + (x16 : Int32).toInt64) (x10 + (v10 : Int32).toInt64) (x12 + ((x16 : Int32).toInt64 * (v10 : Int32).toInt64)) (x14 + ((x16 * x16) : Int32).toInt64) x16))
def f_X12_trend_b44 (h : AH) (N : Nat) : Nat → Nat → Int32 → Int32 → Int32 → Int32 → Int32 → Int64 → Int64 → Int64 → Int64 → Int64 → Int32 → Option Int64
  | 0, _, _, _, _, _, _, _, _, _, _, _, _ => none
  | n + 1, x0, x1, x2, x3, x4, x5, x6, x8, x10, x12, x14, x16 => f_X12_trend_b44_body h N  (f_X12_trend_b44 h N  n) x0 x1 x2 x3 x4 x5 x6 x8 x10 x12 x14 x16
def f_X12_trend (h : AH) (N : Nat) (p0 : Nat) (p1 : Int32) (p2 : Int32) (p3 : Int32) (p4 : Int32) (p5 : Int32) : Option Int64 := if kd h p0 = 13 + 1 then (f_X12_isAsked h p0 p1 p2 p3 p4).bind fun v1 => (if v1 = 0 then some (-9223372036854775808) else (f_X12_in h p5 0 1).bind fun v3 => (if v3 = 0 then some (-9223372036854775808) else f_X12_trend_b44 h N N p0 p1 p2 p3 p4 p5 0 0 0 0 0 0)) else none
theorem g_X12_trend {h : AH} {N : Nat} {p0 : Nat} {p1 : Int32} {p2 : Int32} {p3 : Int32} {p4 : Int32} {p5 : Int32} {x : Int64} (e : f_X12_trend h N p0 p1 p2 p3 p4 p5 = some x) : kd h p0 = 13 + 1 := by
  unfold f_X12_trend at e
  by_cases hk : kd h p0 = 13 + 1
  · exact hk
  · rw [if_neg hk] at e
    cases e
theorem km_X12_trend : KM yX12_trend M_X12_trend 5 := ⟨in_tb 1733 (by decide +kernel) rfl, in_tb 9 (by decide +kernel) rfl, by decide +kernel, rfl, rfl⟩
theorem hm_X12_trend : M_X12_trend.2.2.2.2.2.1 = 0 ∧ M_X12_trend.2.2.2.2.2.2.1 = 0 := ⟨rfl, rfl⟩
section
variable {l : Launch} {g : GG}
set_option maxRecDepth 100000 in
set_option maxHeartbeats 4000000 in
theorem t_X12_trend_b119 (h : AH) (N : Nat) (K44 : Nat → Int32 → Int32 → Int32 → Int32 → Int32 → Int64 → Int64 → Int64 → Int64 → Int64 → Int32 → Option Int64) (hK44 : ∀ (z0 : Nat) (z1 : Int32) (z2 : Int32) (z3 : Int32) (z4 : Int32) (z5 : Int32) (z6 : Int64) (z7 : Int64) (z8 : Int64) (z9 : Int64) (z10 : Int64) (z11 : Int32), AO l g M_X12_trend false h 44 [(0, .ref z0), (1, .int z1), (2, .int z2), (3, .int z3), (4, .int z4), (5, .int z5), (6, .long z6), (8, .long z7), (10, .long z8), (12, .long z9), (14, .long z10), (16, .int z11)] [] h 0 0 (rPl h) (K44 z0 z1 z2 z3 z4 z5 z6 z7 z8 z9 z10 z11)) (x0 : Nat) (x1 : Int32) (x2 : Int32) (x3 : Int32) (x4 : Int32) (x5 : Int32) (x6 : Int64) (x8 : Int64) (x10 : Int64) (x12 : Int64) (x14 : Int64) (x16 : Int32) : AO l g M_X12_trend false h 119 [(0, .ref x0), (1, .int x1), (2, .int x2), (3, .int x3), (4, .int x4), (5, .int x5), (6, .long x6), (8, .long x8), (10, .long x10), (12, .long x12), (14, .long x14), (16, .int x16)] [] h 0 0 (rPl h) (f_X12_trend_b119 h N K44 x0 x1 x2 x3 x4 x5 x6 x8 x10 x12 x14 x16) := by
  unfold f_X12_trend_b119
  refine a_iinc (q := 11) (v := (x16 + 1)) (lc2 := [(16, .int (x16 + 1)), (0, .ref x0), (1, .int x1), (2, .int x2), (3, .int x3), (4, .int x4), (5, .int x5), (6, .long x6), (8, .long x8), (10, .long x10), (12, .long x12), (14, .long x14)]) dX12_trend_119 rfl rfl (by decide) rfl ?_
  refine a_goto 44 dX12_trend_122 (by decide) ?_
  refine a_pick (lc2 := [(0, .ref x0), (1, .int x1), (2, .int x2), (3, .int x3), (4, .int x4), (5, .int x5), (6, .long x6), (8, .long x8), (10, .long x10), (12, .long x12), (14, .long x14), (16, .int (x16 + 1))]) [1, 2, 3, 4, 5, 6, 7, 8, 9, 10, 11, 0] rfl ?_
  exact hK44 x0 x1 x2 x3 x4 x5 x6 x8 x10 x12 x14 (x16 + 1)
set_option maxRecDepth 100000 in
set_option maxHeartbeats 4000000 in
theorem t_X12_trend_b44_body (h : AH) (N : Nat) (K44 : Nat → Int32 → Int32 → Int32 → Int32 → Int32 → Int64 → Int64 → Int64 → Int64 → Int64 → Int32 → Option Int64) (hK44 : ∀ (z0 : Nat) (z1 : Int32) (z2 : Int32) (z3 : Int32) (z4 : Int32) (z5 : Int32) (z6 : Int64) (z7 : Int64) (z8 : Int64) (z9 : Int64) (z10 : Int64) (z11 : Int32), AO l g M_X12_trend false h 44 [(0, .ref z0), (1, .int z1), (2, .int z2), (3, .int z3), (4, .int z4), (5, .int z5), (6, .long z6), (8, .long z7), (10, .long z8), (12, .long z9), (14, .long z10), (16, .int z11)] [] h 0 0 (rPl h) (K44 z0 z1 z2 z3 z4 z5 z6 z7 z8 z9 z10 z11)) (x0 : Nat) (x1 : Int32) (x2 : Int32) (x3 : Int32) (x4 : Int32) (x5 : Int32) (x6 : Int64) (x8 : Int64) (x10 : Int64) (x12 : Int64) (x14 : Int64) (x16 : Int32) : AO l g M_X12_trend false h 44 [(0, .ref x0), (1, .int x1), (2, .int x2), (3, .int x3), (4, .int x4), (5, .int x5), (6, .long x6), (8, .long x8), (10, .long x10), (12, .long x12), (14, .long x14), (16, .int x16)] [] h 0 0 (rPl h) (f_X12_trend_b44_body h N K44 x0 x1 x2 x3 x4 x5 x6 x8 x10 x12 x14 x16) := by
  unfold f_X12_trend_b44_body
  refine a_iload dX12_trend_44 11 rfl ?_
  refine a_bipush (v := 16) dX12_trend_46 (by decide) ?_
  refine a_icmp_ge 125 dX12_trend_48 (by decide) (fun c5 => ?_) (fun c5 => ?_)
  · refine a_lload dX12_trend_125 6 rfl ?_
    refine a_ldc2 (v := 2) dX12_trend_127 w_constantLong_RainCoverModel_407 ?_
    refine a_lcmp dX12_trend_130 ?_
    refine a_if_ge 140 dX12_trend_131 (by decide) (fun c6 => ?_) (fun c6 => ?_)
    · refine a_lload dX12_trend_140 6 rfl ?_
      refine a_lload dX12_trend_142 9 rfl ?_
      refine a_lmul dX12_trend_144 ?_
      refine a_lload dX12_trend_145 7 rfl ?_
      refine a_lload dX12_trend_147 8 rfl ?_
      refine a_lmul dX12_trend_149 ?_
      refine a_lsub dX12_trend_150 ?_
      refine a_lload dX12_trend_151 6 rfl ?_
      refine a_lload dX12_trend_153 10 rfl ?_
      refine a_lmul dX12_trend_155 ?_
      refine a_lload dX12_trend_156 7 rfl ?_
      refine a_lload dX12_trend_158 7 rfl ?_
      refine a_lmul dX12_trend_160 ?_
      refine a_lsub dX12_trend_161 ?_
      refine a_iload dX12_trend_162 5 rfl ?_
      refine a_cS_Pl (as := [.long ((x6 * x12) - (x8 * x10)), .long ((x6 * x14) - (x8 * x8)), .int x5]) (st := []) dX12_trend_164 (c_X12_part l g h N ((x6 * x12) - (x8 * x10)) ((x6 * x14) - (x8 * x8)) x5) rfl km_X12_part (hm_X12_part) w_methodLink_RainCoverModel_376 w_static_RainCoverModel_part__JJI_J ⟨⟨by decide, by decide⟩, ⟨by decide, by decide⟩⟩ (Nat.le_of_ble_eq_true rfl) (fun v7 => ?_)
      exact a_lret dX12_trend_167 rfl rfl (by decide) (by decide)
    · refine a_ldc2 (v := (-9223372036854775808)) dX12_trend_134 w_constantLong_RainCoverModel_374 ?_
      refine a_goto 167 dX12_trend_137 (by decide) ?_
      exact a_lret dX12_trend_167 rfl rfl (by decide) (by decide)
  · refine a_aload_n dX12_trend_51 rfl 0 rfl ?_
    refine a_iload_n dX12_trend_52 rfl 2 rfl ?_
    refine a_iload dX12_trend_53 11 rfl ?_
    refine a_cV_Pi (r := x0) (ci := 13) (as := [.int x2, .int x16]) (st := []) dX12_trend_55 (c_X12_isKnown l g h N x0 x2 x16) rfl km_X12_isKnown (hm_X12_isKnown) rfl (by decide) rfl (fun _ ee => g_X12_isKnown ee) w_methodLink_RainCoverModel_392 w_instanceMethod_RainCoverModel_isKnown__II_Z w_selects_RainCoverModel_RainCoverModel_isKnown__II_Z_RainCoverModel_isKnown__II_Z ⟨⟨by decide, by decide⟩, ⟨by decide, by decide⟩⟩ (Nat.le_of_ble_eq_true rfl) (fun v8 => ?_)
    refine a_if_eq 119 dX12_trend_58 (by decide) (fun c9 => ?_) (fun c9 => ?_)
    · exact t_X12_trend_b119 h N K44 hK44 x0 x1 x2 x3 x4 x5 x6 x8 x10 x12 x14 x16
    · refine a_aload_n dX12_trend_61 rfl 0 rfl ?_
      refine a_iconst (v := 0) dX12_trend_62 (by decide) ?_
      refine a_iload_n dX12_trend_63 rfl 1 rfl ?_
      refine a_iload_n dX12_trend_64 rfl 2 rfl ?_
      refine a_iload dX12_trend_65 11 rfl ?_
      refine a_iload_n dX12_trend_67 rfl 3 rfl ?_
      refine a_iload dX12_trend_68 4 rfl ?_
      refine a_cV_Pi (r := x0) (ci := 13) (as := [.int 0, .int x1, .int x2, .int x16, .int x3, .int x4]) (st := []) dX12_trend_70 (c_X12_payOf l g h N x0 0 x1 x2 x16 x3 x4) rfl km_X12_payOf (hm_X12_payOf) rfl (by decide) rfl (fun _ ee => g_X12_payOf ee) w_methodLink_RainCoverModel_331 w_instanceMethod_RainCoverModel_payOf__IIIIII_I w_selects_RainCoverModel_RainCoverModel_payOf__IIIIII_I_RainCoverModel_payOf__IIIIII_I ⟨⟨by decide, by decide⟩, ⟨by decide, by decide⟩⟩ (Nat.le_of_ble_eq_true rfl) (fun v10 => ?_)
      refine a_i2l dX12_trend_73 ?_
      refine a_lstore (lc2 := [(17, .long (v10 : Int32).toInt64), (0, .ref x0), (1, .int x1), (2, .int x2), (3, .int x3), (4, .int x4), (5, .int x5), (6, .long x6), (8, .long x8), (10, .long x10), (12, .long x12), (14, .long x14), (16, .int x16)]) dX12_trend_74 (by decide) rfl ?_
      refine a_lload dX12_trend_76 7 rfl ?_
      refine a_lconst (v := 1) dX12_trend_78 (by decide) ?_
      refine a_ladd dX12_trend_79 ?_
      refine a_lstore (lc2 := [(6, .long (x6 + 1)), (17, .long (v10 : Int32).toInt64), (0, .ref x0), (1, .int x1), (2, .int x2), (3, .int x3), (4, .int x4), (5, .int x5), (8, .long x8), (10, .long x10), (12, .long x12), (14, .long x14), (16, .int x16)]) dX12_trend_80 (by decide) rfl ?_
      refine a_lload dX12_trend_82 8 rfl ?_
      refine a_iload dX12_trend_84 12 rfl ?_
      refine a_i2l dX12_trend_86 ?_
      refine a_ladd dX12_trend_87 ?_
      refine a_lstore (lc2 := [(8, .long (x8 + (x16 : Int32).toInt64)), (6, .long (x6 + 1)), (17, .long (v10 : Int32).toInt64), (0, .ref x0), (1, .int x1), (2, .int x2), (3, .int x3), (4, .int x4), (5, .int x5), (10, .long x10), (12, .long x12), (14, .long x14), (16, .int x16)]) dX12_trend_88 (by decide) rfl ?_
      refine a_lload dX12_trend_90 9 rfl ?_
      refine a_lload dX12_trend_92 2 rfl ?_
      refine a_ladd dX12_trend_94 ?_
      refine a_lstore (lc2 := [(10, .long (x10 + (v10 : Int32).toInt64)), (8, .long (x8 + (x16 : Int32).toInt64)), (6, .long (x6 + 1)), (17, .long (v10 : Int32).toInt64), (0, .ref x0), (1, .int x1), (2, .int x2), (3, .int x3), (4, .int x4), (5, .int x5), (12, .long x12), (14, .long x14), (16, .int x16)]) dX12_trend_95 (by decide) rfl ?_
      refine a_lload dX12_trend_97 10 rfl ?_
      refine a_iload dX12_trend_99 12 rfl ?_
      refine a_i2l dX12_trend_101 ?_
      refine a_lload dX12_trend_102 3 rfl ?_
      refine a_lmul dX12_trend_104 ?_
      refine a_ladd dX12_trend_105 ?_
      refine a_lstore (lc2 := [(12, .long (x12 + ((x16 : Int32).toInt64 * (v10 : Int32).toInt64))), (10, .long (x10 + (v10 : Int32).toInt64)), (8, .long (x8 + (x16 : Int32).toInt64)), (6, .long (x6 + 1)), (17, .long (v10 : Int32).toInt64), (0, .ref x0), (1, .int x1), (2, .int x2), (3, .int x3), (4, .int x4), (5, .int x5), (14, .long x14), (16, .int x16)]) dX12_trend_106 (by decide) rfl ?_
      refine a_lload dX12_trend_108 11 rfl ?_
      refine a_iload dX12_trend_110 12 rfl ?_
      refine a_iload dX12_trend_112 12 rfl ?_
      refine a_imul dX12_trend_114 ?_
      refine a_i2l dX12_trend_115 ?_
      refine a_ladd dX12_trend_116 ?_
      refine a_lstore (lc2 := [(14, .long (x14 + ((x16 * x16) : Int32).toInt64)), (12, .long (x12 + ((x16 : Int32).toInt64 * (v10 : Int32).toInt64))), (10, .long (x10 + (v10 : Int32).toInt64)), (8, .long (x8 + (x16 : Int32).toInt64)), (6, .long (x6 + 1)), (17, .long (v10 : Int32).toInt64), (0, .ref x0), (1, .int x1), (2, .int x2), (3, .int x3), (4, .int x4), (5, .int x5), (16, .int x16)]) dX12_trend_117 (by decide) rfl ?_
      refine a_pick (lc2 := [(0, .ref x0), (1, .int x1), (2, .int x2), (3, .int x3), (4, .int x4), (5, .int x5), (6, .long (x6 + 1)), (8, .long (x8 + (x16 : Int32).toInt64)), (10, .long (x10 + (v10 : Int32).toInt64)), (12, .long (x12 + ((x16 : Int32).toInt64 * (v10 : Int32).toInt64))), (14, .long (x14 + ((x16 * x16) : Int32).toInt64)), (16, .int x16)]) [6, 7, 8, 9, 10, 11, 4, 3, 2, 1, 0, 12] rfl ?_
      exact t_X12_trend_b119 h N K44 hK44 x0 x1 x2 x3 x4 x5 (x6 + 1) (x8 + (x16 : Int32).toInt64) (x10 + (v10 : Int32).toInt64) (x12 + ((x16 : Int32).toInt64 * (v10 : Int32).toInt64)) (x14 + ((x16 * x16) : Int32).toInt64) x16
set_option maxRecDepth 100000 in
set_option maxHeartbeats 4000000 in
theorem t_X12_trend_b44 (h : AH) (N : Nat) : ∀ (n : Nat) (x0 : Nat) (x1 : Int32) (x2 : Int32) (x3 : Int32) (x4 : Int32) (x5 : Int32) (x6 : Int64) (x8 : Int64) (x10 : Int64) (x12 : Int64) (x14 : Int64) (x16 : Int32) , AO l g M_X12_trend false h 44 [(0, .ref x0), (1, .int x1), (2, .int x2), (3, .int x3), (4, .int x4), (5, .int x5), (6, .long x6), (8, .long x8), (10, .long x10), (12, .long x12), (14, .long x14), (16, .int x16)] [] h 0 0 (rPl h) (f_X12_trend_b44 h N  n x0 x1 x2 x3 x4 x5 x6 x8 x10 x12 x14 x16) := by
  intro n
  induction n with
  | zero => intro x0 x1 x2 x3 x4 x5 x6 x8 x10 x12 x14 x16; exact a_eq rfl a_none
  | succ n ih => intro x0 x1 x2 x3 x4 x5 x6 x8 x10 x12 x14 x16; exact a_eq rfl (t_X12_trend_b44_body h N  (f_X12_trend_b44 h N  n) ih x0 x1 x2 x3 x4 x5 x6 x8 x10 x12 x14 x16)
end
set_option maxRecDepth 100000 in
set_option maxHeartbeats 4000000 in
theorem c_X12_trend (l : Launch) (g : GG) (h : AH) (N : Nat) (p0 : Nat) (p1 : Int32) (p2 : Int32) (p3 : Int32) (p4 : Int32) (p5 : Int32) : CN l g yX12_trend M_X12_trend false [.ref p0, .int p1, .int p2, .int p3, .int p4, .int p5] h ((rPl h)) (f_X12_trend h N p0 p1 p2 p3 p4 p5) := by
  refine CN.of (by decide) rfl (fun hh => by first | rfl | cases hh) (Nat.le_of_ble_eq_true rfl) ?_
  unfold f_X12_trend
  refine a_gd (fun hkd => ?_)
  refine a_aload_n dX12_trend_0 rfl 0 rfl ?_
  refine a_iload_n dX12_trend_1 rfl 1 rfl ?_
  refine a_iload_n dX12_trend_2 rfl 2 rfl ?_
  refine a_iload_n dX12_trend_3 rfl 3 rfl ?_
  refine a_iload dX12_trend_4 4 rfl ?_
  refine a_cV_Pi (r := p0) (ci := 13) (as := [.int p1, .int p2, .int p3, .int p4]) (st := []) dX12_trend_6 (c_X12_isAsked l g h p0 p1 p2 p3 p4) rfl km_X12_isAsked (hm_X12_isAsked) rfl (by decide) rfl (fun _ ee => g_X12_isAsked ee) w_methodLink_RainCoverModel_395 w_instanceMethod_RainCoverModel_isAsked__IIII_Z w_selects_RainCoverModel_RainCoverModel_isAsked__IIII_Z_RainCoverModel_isAsked__IIII_Z ⟨⟨by decide, by decide⟩, ⟨by decide, by decide⟩⟩ (Nat.le_of_ble_eq_true rfl) (fun v1 => ?_)
  refine a_if_eq 22 dX12_trend_9 (by decide) (fun c2 => ?_) (fun c2 => ?_)
  · refine a_ldc2 (v := (-9223372036854775808)) dX12_trend_22 w_constantLong_RainCoverModel_374 ?_
    exact a_lret dX12_trend_25 rfl rfl (by decide) (by decide)
  · refine a_iload dX12_trend_12 5 rfl ?_
    refine a_iconst (v := 0) dX12_trend_14 (by decide) ?_
    refine a_iconst (v := 1) dX12_trend_15 (by decide) ?_
    refine a_cS_Pi (as := [.int p5, .int 0, .int 1]) (st := []) dX12_trend_16 (c_X12_in l g h p5 0 1) rfl km_X12_in (hm_X12_in) w_methodLink_RainCoverModel_204 w_static_RainCoverModel_in__III_Z ⟨⟨by decide, by decide⟩, ⟨by decide, by decide⟩⟩ (Nat.le_of_ble_eq_true rfl) (fun v3 => ?_)
    refine a_if_ne 26 dX12_trend_19 (by decide) (fun c4 => ?_) (fun c4 => ?_)
    · refine a_ldc2 (v := (-9223372036854775808)) dX12_trend_22 w_constantLong_RainCoverModel_374 ?_
      exact a_lret dX12_trend_25 rfl rfl (by decide) (by decide)
    · refine a_lconst (v := 0) dX12_trend_26 (by decide) ?_
      refine a_lstore (lc2 := [(6, .long 0), (0, .ref p0), (1, .int p1), (2, .int p2), (3, .int p3), (4, .int p4), (5, .int p5)]) dX12_trend_27 (by decide) rfl ?_
      refine a_lconst (v := 0) dX12_trend_29 (by decide) ?_
      refine a_lstore (lc2 := [(8, .long 0), (6, .long 0), (0, .ref p0), (1, .int p1), (2, .int p2), (3, .int p3), (4, .int p4), (5, .int p5)]) dX12_trend_30 (by decide) rfl ?_
      refine a_lconst (v := 0) dX12_trend_32 (by decide) ?_
      refine a_lstore (lc2 := [(10, .long 0), (8, .long 0), (6, .long 0), (0, .ref p0), (1, .int p1), (2, .int p2), (3, .int p3), (4, .int p4), (5, .int p5)]) dX12_trend_33 (by decide) rfl ?_
      refine a_lconst (v := 0) dX12_trend_35 (by decide) ?_
      refine a_lstore (lc2 := [(12, .long 0), (10, .long 0), (8, .long 0), (6, .long 0), (0, .ref p0), (1, .int p1), (2, .int p2), (3, .int p3), (4, .int p4), (5, .int p5)]) dX12_trend_36 (by decide) rfl ?_
      refine a_lconst (v := 0) dX12_trend_38 (by decide) ?_
      refine a_lstore (lc2 := [(14, .long 0), (12, .long 0), (10, .long 0), (8, .long 0), (6, .long 0), (0, .ref p0), (1, .int p1), (2, .int p2), (3, .int p3), (4, .int p4), (5, .int p5)]) dX12_trend_39 (by decide) rfl ?_
      refine a_iconst (v := 0) dX12_trend_41 (by decide) ?_
      refine a_istore (lc2 := [(16, .int 0), (14, .long 0), (12, .long 0), (10, .long 0), (8, .long 0), (6, .long 0), (0, .ref p0), (1, .int p1), (2, .int p2), (3, .int p3), (4, .int p4), (5, .int p5)]) dX12_trend_42 (by decide) rfl ?_
      refine a_pick (lc2 := [(0, .ref p0), (1, .int p1), (2, .int p2), (3, .int p3), (4, .int p4), (5, .int p5), (6, .long 0), (8, .long 0), (10, .long 0), (12, .long 0), (14, .long 0), (16, .int 0)]) [6, 7, 8, 9, 10, 11, 5, 4, 3, 2, 1, 0] rfl ?_
      exact t_X12_trend_b44 h N N p0 p1 p2 p3 p4 p5 0 0 0 0 0 0
theorem dX12_beside_0 : decode cX12_beside 0 = .ok (.aload_n 0, 1) := by decide +kernel
theorem dX12_beside_1 : decode cX12_beside 1 = .ok (.iload_n 1, 1) := by decide +kernel
theorem dX12_beside_2 : decode cX12_beside 2 = .ok (.iload_n 3, 1) := by decide +kernel
theorem dX12_beside_3 : decode cX12_beside 3 = .ok (.iload 4, 2) := by decide +kernel
theorem dX12_beside_5 : decode cX12_beside 5 = .ok (.iload 5, 2) := by decide +kernel
theorem dX12_beside_7 : decode cX12_beside 7 = .ok (.invokevirtual 395, 3) := by decide +kernel
theorem dX12_beside_10 : decode cX12_beside 10 = .ok (.ifCond .eq 21, 3) := by decide +kernel
theorem dX12_beside_13 : decode cX12_beside 13 = .ok (.aload_n 0, 1) := by decide +kernel
theorem dX12_beside_14 : decode cX12_beside 14 = .ok (.iload_n 2, 1) := by decide +kernel
theorem dX12_beside_15 : decode cX12_beside 15 = .ok (.invokevirtual 328, 3) := by decide +kernel
theorem dX12_beside_18 : decode cX12_beside 18 = .ok (.ifCond .eq 13, 3) := by decide +kernel
theorem dX12_beside_21 : decode cX12_beside 21 = .ok (.iload 6, 2) := by decide +kernel
theorem dX12_beside_23 : decode cX12_beside 23 = .ok (.iconst 0, 1) := by decide +kernel
theorem dX12_beside_24 : decode cX12_beside 24 = .ok (.iconst 3, 1) := by decide +kernel
theorem dX12_beside_25 : decode cX12_beside 25 = .ok (.invokestatic 204, 3) := by decide +kernel
theorem dX12_beside_28 : decode cX12_beside 28 = .ok (.ifCond .ne 5, 3) := by decide +kernel
theorem dX12_beside_31 : decode cX12_beside 31 = .ok (.iconst (-1), 1) := by decide +kernel
theorem dX12_beside_32 : decode cX12_beside 32 = .ok (.ireturn, 1) := by decide +kernel
theorem dX12_beside_33 : decode cX12_beside 33 = .ok (.iconst 0, 1) := by decide +kernel
theorem dX12_beside_34 : decode cX12_beside 34 = .ok (.istore 7, 2) := by decide +kernel
theorem dX12_beside_36 : decode cX12_beside 36 = .ok (.iconst 0, 1) := by decide +kernel
theorem dX12_beside_37 : decode cX12_beside 37 = .ok (.istore 8, 2) := by decide +kernel
theorem dX12_beside_39 : decode cX12_beside 39 = .ok (.iload 8, 2) := by decide +kernel
theorem dX12_beside_41 : decode cX12_beside 41 = .ok (.bipush 16, 2) := by decide +kernel
theorem dX12_beside_43 : decode cX12_beside 43 = .ok (.if_icmp .ge 112, 3) := by decide +kernel
theorem dX12_beside_46 : decode cX12_beside 46 = .ok (.aload_n 0, 1) := by decide +kernel
theorem dX12_beside_47 : decode cX12_beside 47 = .ok (.iload_n 3, 1) := by decide +kernel
theorem dX12_beside_48 : decode cX12_beside 48 = .ok (.iload 8, 2) := by decide +kernel
theorem dX12_beside_50 : decode cX12_beside 50 = .ok (.invokevirtual 392, 3) := by decide +kernel
theorem dX12_beside_53 : decode cX12_beside 53 = .ok (.ifCond .eq 96, 3) := by decide +kernel
theorem dX12_beside_56 : decode cX12_beside 56 = .ok (.aload_n 0, 1) := by decide +kernel
theorem dX12_beside_57 : decode cX12_beside 57 = .ok (.iconst 0, 1) := by decide +kernel
theorem dX12_beside_58 : decode cX12_beside 58 = .ok (.iload_n 1, 1) := by decide +kernel
theorem dX12_beside_59 : decode cX12_beside 59 = .ok (.iload_n 3, 1) := by decide +kernel
theorem dX12_beside_60 : decode cX12_beside 60 = .ok (.iload 8, 2) := by decide +kernel
theorem dX12_beside_62 : decode cX12_beside 62 = .ok (.iload 4, 2) := by decide +kernel
theorem dX12_beside_64 : decode cX12_beside 64 = .ok (.iload 5, 2) := by decide +kernel
theorem dX12_beside_66 : decode cX12_beside 66 = .ok (.invokevirtual 331, 3) := by decide +kernel
theorem dX12_beside_69 : decode cX12_beside 69 = .ok (.ifCond .le 7, 3) := by decide +kernel
theorem dX12_beside_72 : decode cX12_beside 72 = .ok (.iconst 1, 1) := by decide +kernel
theorem dX12_beside_73 : decode cX12_beside 73 = .ok (.goto 4, 3) := by decide +kernel
theorem dX12_beside_76 : decode cX12_beside 76 = .ok (.iconst 0, 1) := by decide +kernel
theorem dX12_beside_77 : decode cX12_beside 77 = .ok (.istore 9, 2) := by decide +kernel
theorem dX12_beside_79 : decode cX12_beside 79 = .ok (.aload_n 0, 1) := by decide +kernel
theorem dX12_beside_80 : decode cX12_beside 80 = .ok (.iconst 0, 1) := by decide +kernel
theorem dX12_beside_81 : decode cX12_beside 81 = .ok (.iload_n 2, 1) := by decide +kernel
theorem dX12_beside_82 : decode cX12_beside 82 = .ok (.iload_n 3, 1) := by decide +kernel
theorem dX12_beside_83 : decode cX12_beside 83 = .ok (.iload 8, 2) := by decide +kernel
theorem dX12_beside_85 : decode cX12_beside 85 = .ok (.iload 4, 2) := by decide +kernel
theorem dX12_beside_87 : decode cX12_beside 87 = .ok (.iload 5, 2) := by decide +kernel
theorem dX12_beside_89 : decode cX12_beside 89 = .ok (.invokevirtual 331, 3) := by decide +kernel
theorem dX12_beside_92 : decode cX12_beside 92 = .ok (.ifCond .le 7, 3) := by decide +kernel
theorem dX12_beside_95 : decode cX12_beside 95 = .ok (.iconst 1, 1) := by decide +kernel
theorem dX12_beside_96 : decode cX12_beside 96 = .ok (.goto 4, 3) := by decide +kernel
theorem dX12_beside_99 : decode cX12_beside 99 = .ok (.iconst 0, 1) := by decide +kernel
theorem dX12_beside_100 : decode cX12_beside 100 = .ok (.istore 10, 2) := by decide +kernel
theorem dX12_beside_102 : decode cX12_beside 102 = .ok (.iload 9, 2) := by decide +kernel
theorem dX12_beside_104 : decode cX12_beside 104 = .ok (.ifCond .eq 16, 3) := by decide +kernel
theorem dX12_beside_107 : decode cX12_beside 107 = .ok (.iload 10, 2) := by decide +kernel
theorem dX12_beside_109 : decode cX12_beside 109 = .ok (.ifCond .eq 7, 3) := by decide +kernel
theorem dX12_beside_112 : decode cX12_beside 112 = .ok (.iconst 2, 1) := by decide +kernel
theorem dX12_beside_113 : decode cX12_beside 113 = .ok (.goto 17, 3) := by decide +kernel
theorem dX12_beside_116 : decode cX12_beside 116 = .ok (.iconst 0, 1) := by decide +kernel
theorem dX12_beside_117 : decode cX12_beside 117 = .ok (.goto 13, 3) := by decide +kernel
theorem dX12_beside_120 : decode cX12_beside 120 = .ok (.iload 10, 2) := by decide +kernel
theorem dX12_beside_122 : decode cX12_beside 122 = .ok (.ifCond .eq 7, 3) := by decide +kernel
theorem dX12_beside_125 : decode cX12_beside 125 = .ok (.iconst 1, 1) := by decide +kernel
theorem dX12_beside_126 : decode cX12_beside 126 = .ok (.goto 4, 3) := by decide +kernel
theorem dX12_beside_129 : decode cX12_beside 129 = .ok (.iconst 3, 1) := by decide +kernel
theorem dX12_beside_130 : decode cX12_beside 130 = .ok (.istore 11, 2) := by decide +kernel
theorem dX12_beside_132 : decode cX12_beside 132 = .ok (.iload 7, 2) := by decide +kernel
theorem dX12_beside_134 : decode cX12_beside 134 = .ok (.iload 11, 2) := by decide +kernel
theorem dX12_beside_136 : decode cX12_beside 136 = .ok (.iload 6, 2) := by decide +kernel
theorem dX12_beside_138 : decode cX12_beside 138 = .ok (.if_icmp .ne 7, 3) := by decide +kernel
theorem dX12_beside_141 : decode cX12_beside 141 = .ok (.iconst 1, 1) := by decide +kernel
theorem dX12_beside_142 : decode cX12_beside 142 = .ok (.goto 4, 3) := by decide +kernel
theorem dX12_beside_145 : decode cX12_beside 145 = .ok (.iconst 0, 1) := by decide +kernel
theorem dX12_beside_146 : decode cX12_beside 146 = .ok (.iadd, 1) := by decide +kernel
theorem dX12_beside_147 : decode cX12_beside 147 = .ok (.istore 7, 2) := by decide +kernel
theorem dX12_beside_149 : decode cX12_beside 149 = .ok (.iinc 8 1, 3) := by decide +kernel
theorem dX12_beside_152 : decode cX12_beside 152 = .ok (.goto (-113), 3) := by decide +kernel
theorem dX12_beside_155 : decode cX12_beside 155 = .ok (.iload 7, 2) := by decide +kernel
theorem dX12_beside_157 : decode cX12_beside 157 = .ok (.ireturn, 1) := by decide +kernel
abbrev M_X12_beside : MI := (RX12, cX12_beside, 12, (some .int), ({ frames := 7, cells := 0, slots := 0, locals := 179 } : Room), 0, 0, false)
def f_X12_beside_b149 (h : AH) (N : Nat) (K39 : Nat → Int32 → Int32 → Int32 → Int32 → Int32 → Int32 → Int32 → Int32 → Option Int32) (x0 : Nat) (x1 : Int32) (x2 : Int32) (x3 : Int32) (x4 : Int32) (x5 : Int32) (x6 : Int32) (x7 : Int32) (x8 : Int32) : Option Int32 := K39 x0 x1 x2 x3 x4 x5 x6 x7 (x8 + 1)
def f_X12_beside_b146 (h : AH) (N : Nat) (K39 : Nat → Int32 → Int32 → Int32 → Int32 → Int32 → Int32 → Int32 → Int32 → Option Int32) (x0 : Nat) (x1 : Int32) (x2 : Int32) (x3 : Int32) (x4 : Int32) (x5 : Int32) (x6 : Int32) (x8 : Int32) (s8 : Int32) (s9 : Int32) : Option Int32 := f_X12_beside_b149 h N K39 x0 x1 x2 x3 x4 x5 x6 (s9 + s8) x8
def f_X12_beside_b130 (h : AH) (N : Nat) (K39 : Nat → Int32 → Int32 → Int32 → Int32 → Int32 → Int32 → Int32 → Int32 → Option Int32) (x0 : Nat) (x1 : Int32) (x2 : Int32) (x3 : Int32) (x4 : Int32) (x5 : Int32) (x6 : Int32) (x7 : Int32) (x8 : Int32) (s9 : Int32) : Option Int32 := (if s9 = x6 then f_X12_beside_b146 h N K39 x0 x1 x2 x3 x4 x5 x6 x8 1 x7 else f_X12_beside_b146 h N K39 x0 x1 x2 x3 x4 x5 x6 x8 0 x7)
def f_X12_beside_b100 (h : AH) (N : Nat) (K39 : Nat → Int32 → Int32 → Int32 → Int32 → Int32 → Int32 → Int32 → Int32 → Option Int32) (x0 : Nat) (x1 : Int32) (x2 : Int32) (x3 : Int32) (x4 : Int32) (x5 : Int32) (x6 : Int32) (x7 : Int32) (x8 : Int32) (x9 : Int32) (s10 : Int32) : Option Int32 := (if x9 = 0 then (if s10 = 0 then f_X12_beside_b130 h N K39 x0 x1 x2 x3 x4 x5 x6 x7 x8 3 else f_X12_beside_b130 h N K39 x0 x1 x2 x3 x4 x5 x6 x7 x8 1) else (if s10 = 0 then f_X12_beside_b130 h N K39 x0 x1 x2 x3 x4 x5 x6 x7 x8 0 else f_X12_beside_b130 h N K39 x0 x1 x2 x3 x4 x5 x6 x7 x8 2))
def f_X12_beside_b77 (h : AH) (N : Nat) (K39 : Nat → Int32 → Int32 → Int32 → Int32 → Int32 → Int32 → Int32 → Int32 → Option Int32) (x0 : Nat) (x1 : Int32) (x2 : Int32) (x3 : Int32) (x4 : Int32) (x5 : Int32) (x6 : Int32) (x7 : Int32) (x8 : Int32) (s9 : Int32) : Option Int32 := (f_X12_payOf h N x0 0 x2 x3 x8 x4 x5).bind fun v12 => (if v12 ≤ 0 then f_X12_beside_b100 h N K39 x0 x1 x2 x3 x4 x5 x6 x7 x8 s9 0 else f_X12_beside_b100 h N K39 x0 x1 x2 x3 x4 x5 x6 x7 x8 s9 1)
def f_X12_beside_b39_body (h : AH) (N : Nat) (K39 : Nat → Int32 → Int32 → Int32 → Int32 → Int32 → Int32 → Int32 → Int32 → Option Int32) (x0 : Nat) (x1 : Int32) (x2 : Int32) (x3 : Int32) (x4 : Int32) (x5 : Int32) (x6 : Int32) (x7 : Int32) (x8 : Int32) : Option Int32 := (if 16 ≤ x8 then some x7 else (f_X12_isKnown h N x0 x3 x8).bind fun v8 => (if v8 = 0 then f_X12_beside_b149 h N K39 x0 x1 x2 x3 x4 x5 x6 x7 x8 else (f_X12_payOf h N x0 0 x1 x3 x8 x4 x5).bind fun v10 => (if v10 ≤ 0 then f_X12_beside_b77 h N K39 x0 x1 x2 x3 x4 x5 x6 x7 x8 0 else f_X12_beside_b77 h N K39 x0 x1 x2 x3 x4 x5 x6 x7 x8 1)))
def f_X12_beside_b39 (h : AH) (N : Nat) : Nat → Nat → Int32 → Int32 → Int32 → Int32 → Int32 → Int32 → Int32 → Int32 → Option Int32
  | 0, _, _, _, _, _, _, _, _, _ => none
  | n + 1, x0, x1, x2, x3, x4, x5, x6, x7, x8 => f_X12_beside_b39_body h N  (f_X12_beside_b39 h N  n) x0 x1 x2 x3 x4 x5 x6 x7 x8
def f_X12_beside (h : AH) (N : Nat) (p0 : Nat) (p1 : Int32) (p2 : Int32) (p3 : Int32) (p4 : Int32) (p5 : Int32) (p6 : Int32) : Option Int32 := if kd h p0 = 13 + 1 then (f_X12_isAsked h p0 p1 p3 p4 p5).bind fun v1 => (if v1 = 0 then some (-1) else (f_X12_isTerm h p0 p2).bind fun v3 => (if v3 = 0 then some (-1) else (f_X12_in h p6 0 3).bind fun v5 => (if v5 = 0 then some (-1) else f_X12_beside_b39 h N N p0 p1 p2 p3 p4 p5 p6 0 0))) else none
theorem g_X12_beside {h : AH} {N : Nat} {p0 : Nat} {p1 : Int32} {p2 : Int32} {p3 : Int32} {p4 : Int32} {p5 : Int32} {p6 : Int32} {x : Int32} (e : f_X12_beside h N p0 p1 p2 p3 p4 p5 p6 = some x) : kd h p0 = 13 + 1 := by
  unfold f_X12_beside at e
  by_cases hk : kd h p0 = 13 + 1
  · exact hk
  · rw [if_neg hk] at e
    cases e
theorem km_X12_beside : KM yX12_beside M_X12_beside 6 := ⟨in_tb 1738 (by decide +kernel) rfl, in_tb 9 (by decide +kernel) rfl, by decide +kernel, rfl, rfl⟩
theorem hm_X12_beside : M_X12_beside.2.2.2.2.2.1 = 0 ∧ M_X12_beside.2.2.2.2.2.2.1 = 0 := ⟨rfl, rfl⟩
section
variable {l : Launch} {g : GG}
set_option maxRecDepth 100000 in
set_option maxHeartbeats 4000000 in
theorem t_X12_beside_b149 (h : AH) (N : Nat) (K39 : Nat → Int32 → Int32 → Int32 → Int32 → Int32 → Int32 → Int32 → Int32 → Option Int32) (hK39 : ∀ (z0 : Nat) (z1 : Int32) (z2 : Int32) (z3 : Int32) (z4 : Int32) (z5 : Int32) (z6 : Int32) (z7 : Int32) (z8 : Int32), AO l g M_X12_beside false h 39 [(0, .ref z0), (1, .int z1), (2, .int z2), (3, .int z3), (4, .int z4), (5, .int z5), (6, .int z6), (7, .int z7), (8, .int z8)] [] h 0 0 (rPi h) (K39 z0 z1 z2 z3 z4 z5 z6 z7 z8)) (x0 : Nat) (x1 : Int32) (x2 : Int32) (x3 : Int32) (x4 : Int32) (x5 : Int32) (x6 : Int32) (x7 : Int32) (x8 : Int32) : AO l g M_X12_beside false h 149 [(0, .ref x0), (1, .int x1), (2, .int x2), (3, .int x3), (4, .int x4), (5, .int x5), (6, .int x6), (7, .int x7), (8, .int x8)] [] h 0 0 (rPi h) (f_X12_beside_b149 h N K39 x0 x1 x2 x3 x4 x5 x6 x7 x8) := by
  unfold f_X12_beside_b149
  refine a_iinc (q := 8) (v := (x8 + 1)) (lc2 := [(8, .int (x8 + 1)), (0, .ref x0), (1, .int x1), (2, .int x2), (3, .int x3), (4, .int x4), (5, .int x5), (6, .int x6), (7, .int x7)]) dX12_beside_149 rfl rfl (by decide) rfl ?_
  refine a_goto 39 dX12_beside_152 (by decide) ?_
  refine a_pick (lc2 := [(0, .ref x0), (1, .int x1), (2, .int x2), (3, .int x3), (4, .int x4), (5, .int x5), (6, .int x6), (7, .int x7), (8, .int (x8 + 1))]) [1, 2, 3, 4, 5, 6, 7, 8, 0] rfl ?_
  exact hK39 x0 x1 x2 x3 x4 x5 x6 x7 (x8 + 1)
set_option maxRecDepth 100000 in
set_option maxHeartbeats 4000000 in
theorem t_X12_beside_b146 (h : AH) (N : Nat) (K39 : Nat → Int32 → Int32 → Int32 → Int32 → Int32 → Int32 → Int32 → Int32 → Option Int32) (hK39 : ∀ (z0 : Nat) (z1 : Int32) (z2 : Int32) (z3 : Int32) (z4 : Int32) (z5 : Int32) (z6 : Int32) (z7 : Int32) (z8 : Int32), AO l g M_X12_beside false h 39 [(0, .ref z0), (1, .int z1), (2, .int z2), (3, .int z3), (4, .int z4), (5, .int z5), (6, .int z6), (7, .int z7), (8, .int z8)] [] h 0 0 (rPi h) (K39 z0 z1 z2 z3 z4 z5 z6 z7 z8)) (x0 : Nat) (x1 : Int32) (x2 : Int32) (x3 : Int32) (x4 : Int32) (x5 : Int32) (x6 : Int32) (x8 : Int32) (s8 : Int32) (s9 : Int32) : AO l g M_X12_beside false h 146 [(0, .ref x0), (1, .int x1), (2, .int x2), (3, .int x3), (4, .int x4), (5, .int x5), (6, .int x6), (8, .int x8)] [.int s8, .int s9] h 0 0 (rPi h) (f_X12_beside_b146 h N K39 x0 x1 x2 x3 x4 x5 x6 x8 s8 s9) := by
  unfold f_X12_beside_b146
  refine a_iadd dX12_beside_146 ?_
  refine a_istore (lc2 := [(7, .int (s9 + s8)), (0, .ref x0), (1, .int x1), (2, .int x2), (3, .int x3), (4, .int x4), (5, .int x5), (6, .int x6), (8, .int x8)]) dX12_beside_147 (by decide) rfl ?_
  refine a_pick (lc2 := [(0, .ref x0), (1, .int x1), (2, .int x2), (3, .int x3), (4, .int x4), (5, .int x5), (6, .int x6), (7, .int (s9 + s8)), (8, .int x8)]) [1, 2, 3, 4, 5, 6, 7, 0, 8] rfl ?_
  exact t_X12_beside_b149 h N K39 hK39 x0 x1 x2 x3 x4 x5 x6 (s9 + s8) x8
set_option maxRecDepth 100000 in
set_option maxHeartbeats 4000000 in
theorem t_X12_beside_b130 (h : AH) (N : Nat) (K39 : Nat → Int32 → Int32 → Int32 → Int32 → Int32 → Int32 → Int32 → Int32 → Option Int32) (hK39 : ∀ (z0 : Nat) (z1 : Int32) (z2 : Int32) (z3 : Int32) (z4 : Int32) (z5 : Int32) (z6 : Int32) (z7 : Int32) (z8 : Int32), AO l g M_X12_beside false h 39 [(0, .ref z0), (1, .int z1), (2, .int z2), (3, .int z3), (4, .int z4), (5, .int z5), (6, .int z6), (7, .int z7), (8, .int z8)] [] h 0 0 (rPi h) (K39 z0 z1 z2 z3 z4 z5 z6 z7 z8)) (x0 : Nat) (x1 : Int32) (x2 : Int32) (x3 : Int32) (x4 : Int32) (x5 : Int32) (x6 : Int32) (x7 : Int32) (x8 : Int32) (s9 : Int32) : AO l g M_X12_beside false h 130 [(0, .ref x0), (1, .int x1), (2, .int x2), (3, .int x3), (4, .int x4), (5, .int x5), (6, .int x6), (7, .int x7), (8, .int x8)] [.int s9] h 0 0 (rPi h) (f_X12_beside_b130 h N K39 x0 x1 x2 x3 x4 x5 x6 x7 x8 s9) := by
  unfold f_X12_beside_b130
  refine a_istore (lc2 := [(11, .int s9), (0, .ref x0), (1, .int x1), (2, .int x2), (3, .int x3), (4, .int x4), (5, .int x5), (6, .int x6), (7, .int x7), (8, .int x8)]) dX12_beside_130 (by decide) rfl ?_
  refine a_iload dX12_beside_132 8 rfl ?_
  refine a_iload dX12_beside_134 0 rfl ?_
  refine a_iload dX12_beside_136 7 rfl ?_
  refine a_icmp_ne 145 dX12_beside_138 (by decide) (fun c17 => ?_) (fun c17 => ?_)
  · refine a_iconst (v := 1) dX12_beside_141 (by decide) ?_
    refine a_goto 146 dX12_beside_142 (by decide) ?_
    refine a_pick (lc2 := [(0, .ref x0), (1, .int x1), (2, .int x2), (3, .int x3), (4, .int x4), (5, .int x5), (6, .int x6), (8, .int x8)]) [1, 2, 3, 4, 5, 6, 7, 9] rfl ?_
    exact t_X12_beside_b146 h N K39 hK39 x0 x1 x2 x3 x4 x5 x6 x8 1 x7
  · refine a_iconst (v := 0) dX12_beside_145 (by decide) ?_
    refine a_pick (lc2 := [(0, .ref x0), (1, .int x1), (2, .int x2), (3, .int x3), (4, .int x4), (5, .int x5), (6, .int x6), (8, .int x8)]) [1, 2, 3, 4, 5, 6, 7, 9] rfl ?_
    exact t_X12_beside_b146 h N K39 hK39 x0 x1 x2 x3 x4 x5 x6 x8 0 x7
set_option maxRecDepth 100000 in
set_option maxHeartbeats 4000000 in
theorem t_X12_beside_b100 (h : AH) (N : Nat) (K39 : Nat → Int32 → Int32 → Int32 → Int32 → Int32 → Int32 → Int32 → Int32 → Option Int32) (hK39 : ∀ (z0 : Nat) (z1 : Int32) (z2 : Int32) (z3 : Int32) (z4 : Int32) (z5 : Int32) (z6 : Int32) (z7 : Int32) (z8 : Int32), AO l g M_X12_beside false h 39 [(0, .ref z0), (1, .int z1), (2, .int z2), (3, .int z3), (4, .int z4), (5, .int z5), (6, .int z6), (7, .int z7), (8, .int z8)] [] h 0 0 (rPi h) (K39 z0 z1 z2 z3 z4 z5 z6 z7 z8)) (x0 : Nat) (x1 : Int32) (x2 : Int32) (x3 : Int32) (x4 : Int32) (x5 : Int32) (x6 : Int32) (x7 : Int32) (x8 : Int32) (x9 : Int32) (s10 : Int32) : AO l g M_X12_beside false h 100 [(0, .ref x0), (1, .int x1), (2, .int x2), (3, .int x3), (4, .int x4), (5, .int x5), (6, .int x6), (7, .int x7), (8, .int x8), (9, .int x9)] [.int s10] h 0 0 (rPi h) (f_X12_beside_b100 h N K39 x0 x1 x2 x3 x4 x5 x6 x7 x8 x9 s10) := by
  unfold f_X12_beside_b100
  refine a_istore (lc2 := [(10, .int s10), (0, .ref x0), (1, .int x1), (2, .int x2), (3, .int x3), (4, .int x4), (5, .int x5), (6, .int x6), (7, .int x7), (8, .int x8), (9, .int x9)]) dX12_beside_100 (by decide) rfl ?_
  refine a_iload dX12_beside_102 10 rfl ?_
  refine a_if_eq 120 dX12_beside_104 (by decide) (fun c14 => ?_) (fun c14 => ?_)
  · refine a_iload dX12_beside_120 0 rfl ?_
    refine a_if_eq 129 dX12_beside_122 (by decide) (fun c15 => ?_) (fun c15 => ?_)
    · refine a_iconst (v := 3) dX12_beside_129 (by decide) ?_
      refine a_pick (lc2 := [(0, .ref x0), (1, .int x1), (2, .int x2), (3, .int x3), (4, .int x4), (5, .int x5), (6, .int x6), (7, .int x7), (8, .int x8)]) [1, 2, 3, 4, 5, 6, 7, 8, 9] rfl ?_
      exact t_X12_beside_b130 h N K39 hK39 x0 x1 x2 x3 x4 x5 x6 x7 x8 3
    · refine a_iconst (v := 1) dX12_beside_125 (by decide) ?_
      refine a_goto 130 dX12_beside_126 (by decide) ?_
      refine a_pick (lc2 := [(0, .ref x0), (1, .int x1), (2, .int x2), (3, .int x3), (4, .int x4), (5, .int x5), (6, .int x6), (7, .int x7), (8, .int x8)]) [1, 2, 3, 4, 5, 6, 7, 8, 9] rfl ?_
      exact t_X12_beside_b130 h N K39 hK39 x0 x1 x2 x3 x4 x5 x6 x7 x8 1
  · refine a_iload dX12_beside_107 0 rfl ?_
    refine a_if_eq 116 dX12_beside_109 (by decide) (fun c16 => ?_) (fun c16 => ?_)
    · refine a_iconst (v := 0) dX12_beside_116 (by decide) ?_
      refine a_goto 130 dX12_beside_117 (by decide) ?_
      refine a_pick (lc2 := [(0, .ref x0), (1, .int x1), (2, .int x2), (3, .int x3), (4, .int x4), (5, .int x5), (6, .int x6), (7, .int x7), (8, .int x8)]) [1, 2, 3, 4, 5, 6, 7, 8, 9] rfl ?_
      exact t_X12_beside_b130 h N K39 hK39 x0 x1 x2 x3 x4 x5 x6 x7 x8 0
    · refine a_iconst (v := 2) dX12_beside_112 (by decide) ?_
      refine a_goto 130 dX12_beside_113 (by decide) ?_
      refine a_pick (lc2 := [(0, .ref x0), (1, .int x1), (2, .int x2), (3, .int x3), (4, .int x4), (5, .int x5), (6, .int x6), (7, .int x7), (8, .int x8)]) [1, 2, 3, 4, 5, 6, 7, 8, 9] rfl ?_
      exact t_X12_beside_b130 h N K39 hK39 x0 x1 x2 x3 x4 x5 x6 x7 x8 2
set_option maxRecDepth 100000 in
set_option maxHeartbeats 4000000 in
theorem t_X12_beside_b77 (h : AH) (N : Nat) (K39 : Nat → Int32 → Int32 → Int32 → Int32 → Int32 → Int32 → Int32 → Int32 → Option Int32) (hK39 : ∀ (z0 : Nat) (z1 : Int32) (z2 : Int32) (z3 : Int32) (z4 : Int32) (z5 : Int32) (z6 : Int32) (z7 : Int32) (z8 : Int32), AO l g M_X12_beside false h 39 [(0, .ref z0), (1, .int z1), (2, .int z2), (3, .int z3), (4, .int z4), (5, .int z5), (6, .int z6), (7, .int z7), (8, .int z8)] [] h 0 0 (rPi h) (K39 z0 z1 z2 z3 z4 z5 z6 z7 z8)) (x0 : Nat) (x1 : Int32) (x2 : Int32) (x3 : Int32) (x4 : Int32) (x5 : Int32) (x6 : Int32) (x7 : Int32) (x8 : Int32) (s9 : Int32) : AO l g M_X12_beside false h 77 [(0, .ref x0), (1, .int x1), (2, .int x2), (3, .int x3), (4, .int x4), (5, .int x5), (6, .int x6), (7, .int x7), (8, .int x8)] [.int s9] h 0 0 (rPi h) (f_X12_beside_b77 h N K39 x0 x1 x2 x3 x4 x5 x6 x7 x8 s9) := by
  unfold f_X12_beside_b77
  refine a_istore (lc2 := [(9, .int s9), (0, .ref x0), (1, .int x1), (2, .int x2), (3, .int x3), (4, .int x4), (5, .int x5), (6, .int x6), (7, .int x7), (8, .int x8)]) dX12_beside_77 (by decide) rfl ?_
  refine a_aload_n dX12_beside_79 rfl 1 rfl ?_
  refine a_iconst (v := 0) dX12_beside_80 (by decide) ?_
  refine a_iload_n dX12_beside_81 rfl 3 rfl ?_
  refine a_iload_n dX12_beside_82 rfl 4 rfl ?_
  refine a_iload dX12_beside_83 9 rfl ?_
  refine a_iload dX12_beside_85 5 rfl ?_
  refine a_iload dX12_beside_87 6 rfl ?_
  refine a_cV_Pi (r := x0) (ci := 13) (as := [.int 0, .int x2, .int x3, .int x8, .int x4, .int x5]) (st := []) dX12_beside_89 (c_X12_payOf l g h N x0 0 x2 x3 x8 x4 x5) rfl km_X12_payOf (hm_X12_payOf) rfl (by decide) rfl (fun _ ee => g_X12_payOf ee) w_methodLink_RainCoverModel_331 w_instanceMethod_RainCoverModel_payOf__IIIIII_I w_selects_RainCoverModel_RainCoverModel_payOf__IIIIII_I_RainCoverModel_payOf__IIIIII_I ⟨⟨by decide, by decide⟩, ⟨by decide, by decide⟩⟩ (Nat.le_of_ble_eq_true rfl) (fun v12 => ?_)
  refine a_if_le 99 dX12_beside_92 (by decide) (fun c13 => ?_) (fun c13 => ?_)
  · refine a_iconst (v := 0) dX12_beside_99 (by decide) ?_
    refine a_pick (lc2 := [(0, .ref x0), (1, .int x1), (2, .int x2), (3, .int x3), (4, .int x4), (5, .int x5), (6, .int x6), (7, .int x7), (8, .int x8), (9, .int s9)]) [1, 2, 3, 4, 5, 6, 7, 8, 9, 0] rfl ?_
    exact t_X12_beside_b100 h N K39 hK39 x0 x1 x2 x3 x4 x5 x6 x7 x8 s9 0
  · refine a_iconst (v := 1) dX12_beside_95 (by decide) ?_
    refine a_goto 100 dX12_beside_96 (by decide) ?_
    refine a_pick (lc2 := [(0, .ref x0), (1, .int x1), (2, .int x2), (3, .int x3), (4, .int x4), (5, .int x5), (6, .int x6), (7, .int x7), (8, .int x8), (9, .int s9)]) [1, 2, 3, 4, 5, 6, 7, 8, 9, 0] rfl ?_
    exact t_X12_beside_b100 h N K39 hK39 x0 x1 x2 x3 x4 x5 x6 x7 x8 s9 1
set_option maxRecDepth 100000 in
set_option maxHeartbeats 4000000 in
theorem t_X12_beside_b39_body (h : AH) (N : Nat) (K39 : Nat → Int32 → Int32 → Int32 → Int32 → Int32 → Int32 → Int32 → Int32 → Option Int32) (hK39 : ∀ (z0 : Nat) (z1 : Int32) (z2 : Int32) (z3 : Int32) (z4 : Int32) (z5 : Int32) (z6 : Int32) (z7 : Int32) (z8 : Int32), AO l g M_X12_beside false h 39 [(0, .ref z0), (1, .int z1), (2, .int z2), (3, .int z3), (4, .int z4), (5, .int z5), (6, .int z6), (7, .int z7), (8, .int z8)] [] h 0 0 (rPi h) (K39 z0 z1 z2 z3 z4 z5 z6 z7 z8)) (x0 : Nat) (x1 : Int32) (x2 : Int32) (x3 : Int32) (x4 : Int32) (x5 : Int32) (x6 : Int32) (x7 : Int32) (x8 : Int32) : AO l g M_X12_beside false h 39 [(0, .ref x0), (1, .int x1), (2, .int x2), (3, .int x3), (4, .int x4), (5, .int x5), (6, .int x6), (7, .int x7), (8, .int x8)] [] h 0 0 (rPi h) (f_X12_beside_b39_body h N K39 x0 x1 x2 x3 x4 x5 x6 x7 x8) := by
  unfold f_X12_beside_b39_body
  refine a_iload dX12_beside_39 8 rfl ?_
  refine a_bipush (v := 16) dX12_beside_41 (by decide) ?_
  refine a_icmp_ge 155 dX12_beside_43 (by decide) (fun c7 => ?_) (fun c7 => ?_)
  · refine a_iload dX12_beside_155 7 rfl ?_
    exact a_iret dX12_beside_157 rfl rfl (by decide) (by decide)
  · refine a_aload_n dX12_beside_46 rfl 0 rfl ?_
    refine a_iload_n dX12_beside_47 rfl 3 rfl ?_
    refine a_iload dX12_beside_48 8 rfl ?_
    refine a_cV_Pi (r := x0) (ci := 13) (as := [.int x3, .int x8]) (st := []) dX12_beside_50 (c_X12_isKnown l g h N x0 x3 x8) rfl km_X12_isKnown (hm_X12_isKnown) rfl (by decide) rfl (fun _ ee => g_X12_isKnown ee) w_methodLink_RainCoverModel_392 w_instanceMethod_RainCoverModel_isKnown__II_Z w_selects_RainCoverModel_RainCoverModel_isKnown__II_Z_RainCoverModel_isKnown__II_Z ⟨⟨by decide, by decide⟩, ⟨by decide, by decide⟩⟩ (Nat.le_of_ble_eq_true rfl) (fun v8 => ?_)
    refine a_if_eq 149 dX12_beside_53 (by decide) (fun c9 => ?_) (fun c9 => ?_)
    · exact t_X12_beside_b149 h N K39 hK39 x0 x1 x2 x3 x4 x5 x6 x7 x8
    · refine a_aload_n dX12_beside_56 rfl 0 rfl ?_
      refine a_iconst (v := 0) dX12_beside_57 (by decide) ?_
      refine a_iload_n dX12_beside_58 rfl 1 rfl ?_
      refine a_iload_n dX12_beside_59 rfl 3 rfl ?_
      refine a_iload dX12_beside_60 8 rfl ?_
      refine a_iload dX12_beside_62 4 rfl ?_
      refine a_iload dX12_beside_64 5 rfl ?_
      refine a_cV_Pi (r := x0) (ci := 13) (as := [.int 0, .int x1, .int x3, .int x8, .int x4, .int x5]) (st := []) dX12_beside_66 (c_X12_payOf l g h N x0 0 x1 x3 x8 x4 x5) rfl km_X12_payOf (hm_X12_payOf) rfl (by decide) rfl (fun _ ee => g_X12_payOf ee) w_methodLink_RainCoverModel_331 w_instanceMethod_RainCoverModel_payOf__IIIIII_I w_selects_RainCoverModel_RainCoverModel_payOf__IIIIII_I_RainCoverModel_payOf__IIIIII_I ⟨⟨by decide, by decide⟩, ⟨by decide, by decide⟩⟩ (Nat.le_of_ble_eq_true rfl) (fun v10 => ?_)
      refine a_if_le 76 dX12_beside_69 (by decide) (fun c11 => ?_) (fun c11 => ?_)
      · refine a_iconst (v := 0) dX12_beside_76 (by decide) ?_
        exact t_X12_beside_b77 h N K39 hK39 x0 x1 x2 x3 x4 x5 x6 x7 x8 0
      · refine a_iconst (v := 1) dX12_beside_72 (by decide) ?_
        refine a_goto 77 dX12_beside_73 (by decide) ?_
        exact t_X12_beside_b77 h N K39 hK39 x0 x1 x2 x3 x4 x5 x6 x7 x8 1
set_option maxRecDepth 100000 in
set_option maxHeartbeats 4000000 in
theorem t_X12_beside_b39 (h : AH) (N : Nat) : ∀ (n : Nat) (x0 : Nat) (x1 : Int32) (x2 : Int32) (x3 : Int32) (x4 : Int32) (x5 : Int32) (x6 : Int32) (x7 : Int32) (x8 : Int32) , AO l g M_X12_beside false h 39 [(0, .ref x0), (1, .int x1), (2, .int x2), (3, .int x3), (4, .int x4), (5, .int x5), (6, .int x6), (7, .int x7), (8, .int x8)] [] h 0 0 (rPi h) (f_X12_beside_b39 h N  n x0 x1 x2 x3 x4 x5 x6 x7 x8) := by
  intro n
  induction n with
  | zero => intro x0 x1 x2 x3 x4 x5 x6 x7 x8; exact a_eq rfl a_none
  | succ n ih => intro x0 x1 x2 x3 x4 x5 x6 x7 x8; exact a_eq rfl (t_X12_beside_b39_body h N  (f_X12_beside_b39 h N  n) ih x0 x1 x2 x3 x4 x5 x6 x7 x8)
end
set_option maxRecDepth 100000 in
set_option maxHeartbeats 4000000 in
theorem c_X12_beside (l : Launch) (g : GG) (h : AH) (N : Nat) (p0 : Nat) (p1 : Int32) (p2 : Int32) (p3 : Int32) (p4 : Int32) (p5 : Int32) (p6 : Int32) : CN l g yX12_beside M_X12_beside false [.ref p0, .int p1, .int p2, .int p3, .int p4, .int p5, .int p6] h ((rPi h)) (f_X12_beside h N p0 p1 p2 p3 p4 p5 p6) := by
  refine CN.of (by decide) rfl (fun hh => by first | rfl | cases hh) (Nat.le_of_ble_eq_true rfl) ?_
  unfold f_X12_beside
  refine a_gd (fun hkd => ?_)
  refine a_aload_n dX12_beside_0 rfl 0 rfl ?_
  refine a_iload_n dX12_beside_1 rfl 1 rfl ?_
  refine a_iload_n dX12_beside_2 rfl 3 rfl ?_
  refine a_iload dX12_beside_3 4 rfl ?_
  refine a_iload dX12_beside_5 5 rfl ?_
  refine a_cV_Pi (r := p0) (ci := 13) (as := [.int p1, .int p3, .int p4, .int p5]) (st := []) dX12_beside_7 (c_X12_isAsked l g h p0 p1 p3 p4 p5) rfl km_X12_isAsked (hm_X12_isAsked) rfl (by decide) rfl (fun _ ee => g_X12_isAsked ee) w_methodLink_RainCoverModel_395 w_instanceMethod_RainCoverModel_isAsked__IIII_Z w_selects_RainCoverModel_RainCoverModel_isAsked__IIII_Z_RainCoverModel_isAsked__IIII_Z ⟨⟨by decide, by decide⟩, ⟨by decide, by decide⟩⟩ (Nat.le_of_ble_eq_true rfl) (fun v1 => ?_)
  refine a_if_eq 31 dX12_beside_10 (by decide) (fun c2 => ?_) (fun c2 => ?_)
  · refine a_iconst (v := (-1)) dX12_beside_31 (by decide) ?_
    exact a_iret dX12_beside_32 rfl rfl (by decide) (by decide)
  · refine a_aload_n dX12_beside_13 rfl 0 rfl ?_
    refine a_iload_n dX12_beside_14 rfl 2 rfl ?_
    refine a_cV_Pi (r := p0) (ci := 13) (as := [.int p2]) (st := []) dX12_beside_15 (c_X12_isTerm l g h p0 p2) rfl km_X12_isTerm (hm_X12_isTerm) rfl (by decide) rfl (fun _ ee => g_X12_isTerm ee) w_methodLink_RainCoverModel_328 w_instanceMethod_RainCoverModel_isTerm__I_Z w_selects_RainCoverModel_RainCoverModel_isTerm__I_Z_RainCoverModel_isTerm__I_Z ⟨⟨by decide, by decide⟩, ⟨by decide, by decide⟩⟩ (Nat.le_of_ble_eq_true rfl) (fun v3 => ?_)
    refine a_if_eq 31 dX12_beside_18 (by decide) (fun c4 => ?_) (fun c4 => ?_)
    · refine a_iconst (v := (-1)) dX12_beside_31 (by decide) ?_
      exact a_iret dX12_beside_32 rfl rfl (by decide) (by decide)
    · refine a_iload dX12_beside_21 6 rfl ?_
      refine a_iconst (v := 0) dX12_beside_23 (by decide) ?_
      refine a_iconst (v := 3) dX12_beside_24 (by decide) ?_
      refine a_cS_Pi (as := [.int p6, .int 0, .int 3]) (st := []) dX12_beside_25 (c_X12_in l g h p6 0 3) rfl km_X12_in (hm_X12_in) w_methodLink_RainCoverModel_204 w_static_RainCoverModel_in__III_Z ⟨⟨by decide, by decide⟩, ⟨by decide, by decide⟩⟩ (Nat.le_of_ble_eq_true rfl) (fun v5 => ?_)
      refine a_if_ne 33 dX12_beside_28 (by decide) (fun c6 => ?_) (fun c6 => ?_)
      · refine a_iconst (v := (-1)) dX12_beside_31 (by decide) ?_
        exact a_iret dX12_beside_32 rfl rfl (by decide) (by decide)
      · refine a_iconst (v := 0) dX12_beside_33 (by decide) ?_
        refine a_istore (lc2 := [(7, .int 0), (0, .ref p0), (1, .int p1), (2, .int p2), (3, .int p3), (4, .int p4), (5, .int p5), (6, .int p6)]) dX12_beside_34 (by decide) rfl ?_
        refine a_iconst (v := 0) dX12_beside_36 (by decide) ?_
        refine a_istore (lc2 := [(8, .int 0), (7, .int 0), (0, .ref p0), (1, .int p1), (2, .int p2), (3, .int p3), (4, .int p4), (5, .int p5), (6, .int p6)]) dX12_beside_37 (by decide) rfl ?_
        refine a_pick (lc2 := [(0, .ref p0), (1, .int p1), (2, .int p2), (3, .int p3), (4, .int p4), (5, .int p5), (6, .int p6), (7, .int 0), (8, .int 0)]) [2, 3, 4, 5, 6, 7, 8, 1, 0] rfl ?_
        exact t_X12_beside_b39 h N N p0 p1 p2 p3 p4 p5 p6 0 0
theorem dX12_foretold_0 : decode cX12_foretold 0 = .ok (.aload_n 0, 1) := by decide +kernel
theorem dX12_foretold_1 : decode cX12_foretold 1 = .ok (.iload_n 1, 1) := by decide +kernel
theorem dX12_foretold_2 : decode cX12_foretold 2 = .ok (.iload_n 2, 1) := by decide +kernel
theorem dX12_foretold_3 : decode cX12_foretold 3 = .ok (.iload 5, 2) := by decide +kernel
theorem dX12_foretold_5 : decode cX12_foretold 5 = .ok (.iload 6, 2) := by decide +kernel
theorem dX12_foretold_7 : decode cX12_foretold 7 = .ok (.invokevirtual 395, 3) := by decide +kernel
theorem dX12_foretold_10 : decode cX12_foretold 10 = .ok (.ifCond .eq 31, 3) := by decide +kernel
theorem dX12_foretold_13 : decode cX12_foretold 13 = .ok (.iload_n 3, 1) := by decide +kernel
theorem dX12_foretold_14 : decode cX12_foretold 14 = .ok (.invokestatic 221, 3) := by decide +kernel
theorem dX12_foretold_17 : decode cX12_foretold 17 = .ok (.ifCond .eq 24, 3) := by decide +kernel
theorem dX12_foretold_20 : decode cX12_foretold 20 = .ok (.iload 4, 2) := by decide +kernel
theorem dX12_foretold_22 : decode cX12_foretold 22 = .ok (.iconst 0, 1) := by decide +kernel
theorem dX12_foretold_23 : decode cX12_foretold 23 = .ok (.bipush 12, 2) := by decide +kernel
theorem dX12_foretold_25 : decode cX12_foretold 25 = .ok (.invokestatic 204, 3) := by decide +kernel
theorem dX12_foretold_28 : decode cX12_foretold 28 = .ok (.ifCond .eq 13, 3) := by decide +kernel
theorem dX12_foretold_31 : decode cX12_foretold 31 = .ok (.iload 7, 2) := by decide +kernel
theorem dX12_foretold_33 : decode cX12_foretold 33 = .ok (.iconst 0, 1) := by decide +kernel
theorem dX12_foretold_34 : decode cX12_foretold 34 = .ok (.iconst 3, 1) := by decide +kernel
theorem dX12_foretold_35 : decode cX12_foretold 35 = .ok (.invokestatic 204, 3) := by decide +kernel
theorem dX12_foretold_38 : decode cX12_foretold 38 = .ok (.ifCond .ne 5, 3) := by decide +kernel
theorem dX12_foretold_41 : decode cX12_foretold 41 = .ok (.iconst (-1), 1) := by decide +kernel
theorem dX12_foretold_42 : decode cX12_foretold 42 = .ok (.ireturn, 1) := by decide +kernel
theorem dX12_foretold_43 : decode cX12_foretold 43 = .ok (.iconst 0, 1) := by decide +kernel
theorem dX12_foretold_44 : decode cX12_foretold 44 = .ok (.istore 8, 2) := by decide +kernel
theorem dX12_foretold_46 : decode cX12_foretold 46 = .ok (.iconst 0, 1) := by decide +kernel
theorem dX12_foretold_47 : decode cX12_foretold 47 = .ok (.istore 9, 2) := by decide +kernel
theorem dX12_foretold_49 : decode cX12_foretold 49 = .ok (.iconst 0, 1) := by decide +kernel
theorem dX12_foretold_50 : decode cX12_foretold 50 = .ok (.istore 10, 2) := by decide +kernel
theorem dX12_foretold_52 : decode cX12_foretold 52 = .ok (.iconst 0, 1) := by decide +kernel
theorem dX12_foretold_53 : decode cX12_foretold 53 = .ok (.istore 11, 2) := by decide +kernel
theorem dX12_foretold_55 : decode cX12_foretold 55 = .ok (.iconst 0, 1) := by decide +kernel
theorem dX12_foretold_56 : decode cX12_foretold 56 = .ok (.istore 12, 2) := by decide +kernel
theorem dX12_foretold_58 : decode cX12_foretold 58 = .ok (.iload 12, 2) := by decide +kernel
theorem dX12_foretold_60 : decode cX12_foretold 60 = .ok (.bipush 16, 2) := by decide +kernel
theorem dX12_foretold_62 : decode cX12_foretold 62 = .ok (.if_icmp .ge 104, 3) := by decide +kernel
theorem dX12_foretold_65 : decode cX12_foretold 65 = .ok (.iload 12, 2) := by decide +kernel
theorem dX12_foretold_67 : decode cX12_foretold 67 = .ok (.iload_n 3, 1) := by decide +kernel
theorem dX12_foretold_68 : decode cX12_foretold 68 = .ok (.if_icmp .eq 92, 3) := by decide +kernel
theorem dX12_foretold_71 : decode cX12_foretold 71 = .ok (.aload_n 0, 1) := by decide +kernel
theorem dX12_foretold_72 : decode cX12_foretold 72 = .ok (.iload_n 2, 1) := by decide +kernel
theorem dX12_foretold_73 : decode cX12_foretold 73 = .ok (.iload 12, 2) := by decide +kernel
theorem dX12_foretold_75 : decode cX12_foretold 75 = .ok (.invokevirtual 392, 3) := by decide +kernel
theorem dX12_foretold_78 : decode cX12_foretold 78 = .ok (.ifCond .eq 82, 3) := by decide +kernel
theorem dX12_foretold_81 : decode cX12_foretold 81 = .ok (.aload_n 0, 1) := by decide +kernel
theorem dX12_foretold_82 : decode cX12_foretold 82 = .ok (.iload 12, 2) := by decide +kernel
theorem dX12_foretold_84 : decode cX12_foretold 84 = .ok (.putfield 307, 3) := by decide +kernel
theorem dX12_foretold_87 : decode cX12_foretold 87 = .ok (.aload_n 0, 1) := by decide +kernel
theorem dX12_foretold_88 : decode cX12_foretold 88 = .ok (.iload 4, 2) := by decide +kernel
theorem dX12_foretold_90 : decode cX12_foretold 90 = .ok (.putfield 188, 3) := by decide +kernel
theorem dX12_foretold_93 : decode cX12_foretold 93 = .ok (.aload_n 0, 1) := by decide +kernel
theorem dX12_foretold_94 : decode cX12_foretold 94 = .ok (.iconst 0, 1) := by decide +kernel
theorem dX12_foretold_95 : decode cX12_foretold 95 = .ok (.iload_n 1, 1) := by decide +kernel
theorem dX12_foretold_96 : decode cX12_foretold 96 = .ok (.iload_n 2, 1) := by decide +kernel
theorem dX12_foretold_97 : decode cX12_foretold 97 = .ok (.iload_n 3, 1) := by decide +kernel
theorem dX12_foretold_98 : decode cX12_foretold 98 = .ok (.iload 5, 2) := by decide +kernel
theorem dX12_foretold_100 : decode cX12_foretold 100 = .ok (.iload 6, 2) := by decide +kernel
theorem dX12_foretold_102 : decode cX12_foretold 102 = .ok (.invokevirtual 331, 3) := by decide +kernel
theorem dX12_foretold_105 : decode cX12_foretold 105 = .ok (.istore 13, 2) := by decide +kernel
theorem dX12_foretold_107 : decode cX12_foretold 107 = .ok (.aload_n 0, 1) := by decide +kernel
theorem dX12_foretold_108 : decode cX12_foretold 108 = .ok (.bipush 12, 2) := by decide +kernel
theorem dX12_foretold_110 : decode cX12_foretold 110 = .ok (.putfield 188, 3) := by decide +kernel
theorem dX12_foretold_113 : decode cX12_foretold 113 = .ok (.iload 11, 2) := by decide +kernel
theorem dX12_foretold_115 : decode cX12_foretold 115 = .ok (.ifCond .eq 10, 3) := by decide +kernel
theorem dX12_foretold_118 : decode cX12_foretold 118 = .ok (.iload 13, 2) := by decide +kernel
theorem dX12_foretold_120 : decode cX12_foretold 120 = .ok (.iload 8, 2) := by decide +kernel
theorem dX12_foretold_122 : decode cX12_foretold 122 = .ok (.if_icmp .ge 8, 3) := by decide +kernel
theorem dX12_foretold_125 : decode cX12_foretold 125 = .ok (.iload 13, 2) := by decide +kernel
theorem dX12_foretold_127 : decode cX12_foretold 127 = .ok (.goto 5, 3) := by decide +kernel
theorem dX12_foretold_130 : decode cX12_foretold 130 = .ok (.iload 8, 2) := by decide +kernel
theorem dX12_foretold_132 : decode cX12_foretold 132 = .ok (.istore 8, 2) := by decide +kernel
theorem dX12_foretold_134 : decode cX12_foretold 134 = .ok (.iload 13, 2) := by decide +kernel
theorem dX12_foretold_136 : decode cX12_foretold 136 = .ok (.iload 9, 2) := by decide +kernel
theorem dX12_foretold_138 : decode cX12_foretold 138 = .ok (.if_icmp .le 8, 3) := by decide +kernel
theorem dX12_foretold_141 : decode cX12_foretold 141 = .ok (.iload 13, 2) := by decide +kernel
theorem dX12_foretold_143 : decode cX12_foretold 143 = .ok (.goto 5, 3) := by decide +kernel
theorem dX12_foretold_146 : decode cX12_foretold 146 = .ok (.iload 9, 2) := by decide +kernel
theorem dX12_foretold_148 : decode cX12_foretold 148 = .ok (.istore 9, 2) := by decide +kernel
theorem dX12_foretold_150 : decode cX12_foretold 150 = .ok (.iload 10, 2) := by decide +kernel
theorem dX12_foretold_152 : decode cX12_foretold 152 = .ok (.iload 13, 2) := by decide +kernel
theorem dX12_foretold_154 : decode cX12_foretold 154 = .ok (.iadd, 1) := by decide +kernel
theorem dX12_foretold_155 : decode cX12_foretold 155 = .ok (.istore 10, 2) := by decide +kernel
theorem dX12_foretold_157 : decode cX12_foretold 157 = .ok (.iinc 11 1, 3) := by decide +kernel
theorem dX12_foretold_160 : decode cX12_foretold 160 = .ok (.iinc 12 1, 3) := by decide +kernel
theorem dX12_foretold_163 : decode cX12_foretold 163 = .ok (.goto (-105), 3) := by decide +kernel
theorem dX12_foretold_166 : decode cX12_foretold 166 = .ok (.iload 7, 2) := by decide +kernel
theorem dX12_foretold_168 : decode cX12_foretold 168 = .ok (.ifCond .ne 8, 3) := by decide +kernel
theorem dX12_foretold_171 : decode cX12_foretold 171 = .ok (.iload 8, 2) := by decide +kernel
theorem dX12_foretold_173 : decode cX12_foretold 173 = .ok (.goto 27, 3) := by decide +kernel
theorem dX12_foretold_176 : decode cX12_foretold 176 = .ok (.iload 7, 2) := by decide +kernel
theorem dX12_foretold_178 : decode cX12_foretold 178 = .ok (.iconst 1, 1) := by decide +kernel
theorem dX12_foretold_179 : decode cX12_foretold 179 = .ok (.if_icmp .ne 8, 3) := by decide +kernel
theorem dX12_foretold_182 : decode cX12_foretold 182 = .ok (.iload 9, 2) := by decide +kernel
theorem dX12_foretold_184 : decode cX12_foretold 184 = .ok (.goto 16, 3) := by decide +kernel
theorem dX12_foretold_187 : decode cX12_foretold 187 = .ok (.iload 7, 2) := by decide +kernel
theorem dX12_foretold_189 : decode cX12_foretold 189 = .ok (.iconst 2, 1) := by decide +kernel
theorem dX12_foretold_190 : decode cX12_foretold 190 = .ok (.if_icmp .ne 8, 3) := by decide +kernel
theorem dX12_foretold_193 : decode cX12_foretold 193 = .ok (.iload 10, 2) := by decide +kernel
theorem dX12_foretold_195 : decode cX12_foretold 195 = .ok (.goto 5, 3) := by decide +kernel
theorem dX12_foretold_198 : decode cX12_foretold 198 = .ok (.iload 11, 2) := by decide +kernel
theorem dX12_foretold_200 : decode cX12_foretold 200 = .ok (.ireturn, 1) := by decide +kernel
abbrev M_X12_foretold : MI := (RX12, cX12_foretold, 14, (some .int), ({ frames := 7, cells := 0, slots := 0, locals := 179 } : Room), 0, 0, false)
def f_X12_foretold_b160 (N : Nat) (K58 : AH → Nat → Int32 → Int32 → Int32 → Int32 → Int32 → Int32 → Int32 → Int32 → Int32 → Int32 → Int32 → Int32 → Option (Int32 × AH)) (h : AH) (x0 : Nat) (x1 : Int32) (x2 : Int32) (x3 : Int32) (x4 : Int32) (x5 : Int32) (x6 : Int32) (x7 : Int32) (x8 : Int32) (x9 : Int32) (x10 : Int32) (x11 : Int32) (x12 : Int32) : Option (Int32 × AH) := K58 h x0 x1 x2 x3 x4 x5 x6 x7 x8 x9 x10 x11 (x12 + 1)
def f_X12_foretold_b148 (N : Nat) (K58 : AH → Nat → Int32 → Int32 → Int32 → Int32 → Int32 → Int32 → Int32 → Int32 → Int32 → Int32 → Int32 → Int32 → Option (Int32 × AH)) (h : AH) (x0 : Nat) (x1 : Int32) (x2 : Int32) (x3 : Int32) (x4 : Int32) (x5 : Int32) (x6 : Int32) (x7 : Int32) (x8 : Int32) (x10 : Int32) (x11 : Int32) (x12 : Int32) (x13 : Int32) (s13 : Int32) : Option (Int32 × AH) := f_X12_foretold_b160 N K58 h x0 x1 x2 x3 x4 x5 x6 x7 x8 s13 (x10 + x13) (x11 + 1) x12
def f_X12_foretold_b132 (N : Nat) (K58 : AH → Nat → Int32 → Int32 → Int32 → Int32 → Int32 → Int32 → Int32 → Int32 → Int32 → Int32 → Int32 → Int32 → Option (Int32 × AH)) (h : AH) (x0 : Nat) (x1 : Int32) (x2 : Int32) (x3 : Int32) (x4 : Int32) (x5 : Int32) (x6 : Int32) (x7 : Int32) (x9 : Int32) (x10 : Int32) (x11 : Int32) (x12 : Int32) (x13 : Int32) (s13 : Int32) : Option (Int32 × AH) := (if x13 ≤ x9 then f_X12_foretold_b148 N K58 h x0 x1 x2 x3 x4 x5 x6 x7 s13 x10 x11 x12 x13 x9 else f_X12_foretold_b148 N K58 h x0 x1 x2 x3 x4 x5 x6 x7 s13 x10 x11 x12 x13 x13)
def f_X12_foretold_b125 (N : Nat) (K58 : AH → Nat → Int32 → Int32 → Int32 → Int32 → Int32 → Int32 → Int32 → Int32 → Int32 → Int32 → Int32 → Int32 → Option (Int32 × AH)) (h : AH) (x0 : Nat) (x1 : Int32) (x2 : Int32) (x3 : Int32) (x4 : Int32) (x5 : Int32) (x6 : Int32) (x7 : Int32) (x9 : Int32) (x10 : Int32) (x11 : Int32) (x12 : Int32) (x13 : Int32) : Option (Int32 × AH) := f_X12_foretold_b132 N K58 h x0 x1 x2 x3 x4 x5 x6 x7 x9 x10 x11 x12 x13 x13
def f_X12_foretold_b58_body (N : Nat) (K58 : AH → Nat → Int32 → Int32 → Int32 → Int32 → Int32 → Int32 → Int32 → Int32 → Int32 → Int32 → Int32 → Int32 → Option (Int32 × AH)) (h : AH) (x0 : Nat) (x1 : Int32) (x2 : Int32) (x3 : Int32) (x4 : Int32) (x5 : Int32) (x6 : Int32) (x7 : Int32) (x8 : Int32) (x9 : Int32) (x10 : Int32) (x11 : Int32) (x12 : Int32) : Option (Int32 × AH) := (if 16 ≤ x12 then (if x7 = 0 then some (x8, h) else (if x7 = 1 then some (x9, h) else (if x7 = 2 then some (x10, h) else some (x11, h)))) else (if x12 = x3 then f_X12_foretold_b160 N K58 h x0 x1 x2 x3 x4 x5 x6 x7 x8 x9 x10 x11 x12 else (f_X12_isKnown h N x0 x2 x12).bind fun v14 => (if v14 = 0 then f_X12_foretold_b160 N K58 h x0 x1 x2 x3 x4 x5 x6 x7 x8 x9 x10 x11 x12 else (xpi h x0 13 72 x12).bind fun h16 => (xpi h16 x0 13 73 x4).bind fun h17 => (f_X12_payOf h17 N x0 0 x1 x2 x3 x5 x6).bind fun v18 => (xpi h17 x0 13 73 12).bind fun h19 => (if x11 = 0 then f_X12_foretold_b125 N K58 h19 x0 x1 x2 x3 x4 x5 x6 x7 x9 x10 x11 x12 v18 else (if x8 ≤ v18 then f_X12_foretold_b132 N K58 h19 x0 x1 x2 x3 x4 x5 x6 x7 x9 x10 x11 x12 v18 x8 else f_X12_foretold_b125 N K58 h19 x0 x1 x2 x3 x4 x5 x6 x7 x9 x10 x11 x12 v18)))))
def f_X12_foretold_b58 (N : Nat) : Nat → AH → Nat → Int32 → Int32 → Int32 → Int32 → Int32 → Int32 → Int32 → Int32 → Int32 → Int32 → Int32 → Int32 → Option (Int32 × AH)
  | 0, _, _, _, _, _, _, _, _, _, _, _, _, _, _ => none
  | n + 1, h, x0, x1, x2, x3, x4, x5, x6, x7, x8, x9, x10, x11, x12 => f_X12_foretold_b58_body N  (f_X12_foretold_b58 N  n) h x0 x1 x2 x3 x4 x5 x6 x7 x8 x9 x10 x11 x12
def f_X12_foretold (h0 : AH) (N : Nat) (p0 : Nat) (p1 : Int32) (p2 : Int32) (p3 : Int32) (p4 : Int32) (p5 : Int32) (p6 : Int32) (p7 : Int32) : Option (Int32 × AH) := if kd h0 p0 = 13 + 1 then (f_X12_isAsked h0 p0 p1 p2 p5 p6).bind fun v1 => (if v1 = 0 then some ((-1), h0) else (f_X12_isSeason h0 p3).bind fun v3 => (if v3 = 0 then some ((-1), h0) else (f_X12_in h0 p4 0 12).bind fun v5 => (if v5 = 0 then some ((-1), h0) else (f_X12_in h0 p7 0 3).bind fun v7 => (if v7 = 0 then some ((-1), h0) else f_X12_foretold_b58 N N h0 p0 p1 p2 p3 p4 p5 p6 p7 0 0 0 0 0)))) else none
theorem g_X12_foretold {h0 : AH} {N : Nat} {p0 : Nat} {p1 : Int32} {p2 : Int32} {p3 : Int32} {p4 : Int32} {p5 : Int32} {p6 : Int32} {p7 : Int32} {x : (Int32 × AH)} (e : f_X12_foretold h0 N p0 p1 p2 p3 p4 p5 p6 p7 = some x) : kd h0 p0 = 13 + 1 := by
  unfold f_X12_foretold at e
  by_cases hk : kd h0 p0 = 13 + 1
  · exact hk
  · rw [if_neg hk] at e
    cases e
theorem km_X12_foretold : KM yX12_foretold M_X12_foretold 7 := ⟨in_tb 1742 (by decide +kernel) rfl, in_tb 9 (by decide +kernel) rfl, by decide +kernel, rfl, rfl⟩
theorem hm_X12_foretold : M_X12_foretold.2.2.2.2.2.1 = 0 ∧ M_X12_foretold.2.2.2.2.2.2.1 = 0 := ⟨rfl, rfl⟩
section
variable {l : Launch} {g : GG}
set_option maxRecDepth 100000 in
set_option maxHeartbeats 4000000 in
theorem t_X12_foretold_b160 (h0 : AH) (N : Nat) (K58 : AH → Nat → Int32 → Int32 → Int32 → Int32 → Int32 → Int32 → Int32 → Int32 → Int32 → Int32 → Int32 → Int32 → Option (Int32 × AH)) (hK58 : ∀ (z : AH) (z0 : Nat) (z1 : Int32) (z2 : Int32) (z3 : Int32) (z4 : Int32) (z5 : Int32) (z6 : Int32) (z7 : Int32) (z8 : Int32) (z9 : Int32) (z10 : Int32) (z11 : Int32) (z12 : Int32), AO l g M_X12_foretold false h0 58 [(0, .ref z0), (1, .int z1), (2, .int z2), (3, .int z3), (4, .int z4), (5, .int z5), (6, .int z6), (7, .int z7), (8, .int z8), (9, .int z9), (10, .int z10), (11, .int z11), (12, .int z12)] [] z 0 0 rSi (K58 z z0 z1 z2 z3 z4 z5 z6 z7 z8 z9 z10 z11 z12)) (h : AH) (x0 : Nat) (x1 : Int32) (x2 : Int32) (x3 : Int32) (x4 : Int32) (x5 : Int32) (x6 : Int32) (x7 : Int32) (x8 : Int32) (x9 : Int32) (x10 : Int32) (x11 : Int32) (x12 : Int32) : AO l g M_X12_foretold false h0 160 [(0, .ref x0), (1, .int x1), (2, .int x2), (3, .int x3), (4, .int x4), (5, .int x5), (6, .int x6), (7, .int x7), (8, .int x8), (9, .int x9), (10, .int x10), (11, .int x11), (12, .int x12)] [] h 0 0 rSi (f_X12_foretold_b160 N K58 h x0 x1 x2 x3 x4 x5 x6 x7 x8 x9 x10 x11 x12) := by
  unfold f_X12_foretold_b160
  refine a_iinc (q := 12) (v := (x12 + 1)) (lc2 := [(12, .int (x12 + 1)), (0, .ref x0), (1, .int x1), (2, .int x2), (3, .int x3), (4, .int x4), (5, .int x5), (6, .int x6), (7, .int x7), (8, .int x8), (9, .int x9), (10, .int x10), (11, .int x11)]) dX12_foretold_160 rfl rfl (by decide) rfl ?_
  refine a_goto 58 dX12_foretold_163 (by decide) ?_
  refine a_pick (lc2 := [(0, .ref x0), (1, .int x1), (2, .int x2), (3, .int x3), (4, .int x4), (5, .int x5), (6, .int x6), (7, .int x7), (8, .int x8), (9, .int x9), (10, .int x10), (11, .int x11), (12, .int (x12 + 1))]) [1, 2, 3, 4, 5, 6, 7, 8, 9, 10, 11, 12, 0] rfl ?_
  exact hK58 h x0 x1 x2 x3 x4 x5 x6 x7 x8 x9 x10 x11 (x12 + 1)
set_option maxRecDepth 100000 in
set_option maxHeartbeats 4000000 in
theorem t_X12_foretold_b148 (h0 : AH) (N : Nat) (K58 : AH → Nat → Int32 → Int32 → Int32 → Int32 → Int32 → Int32 → Int32 → Int32 → Int32 → Int32 → Int32 → Int32 → Option (Int32 × AH)) (hK58 : ∀ (z : AH) (z0 : Nat) (z1 : Int32) (z2 : Int32) (z3 : Int32) (z4 : Int32) (z5 : Int32) (z6 : Int32) (z7 : Int32) (z8 : Int32) (z9 : Int32) (z10 : Int32) (z11 : Int32) (z12 : Int32), AO l g M_X12_foretold false h0 58 [(0, .ref z0), (1, .int z1), (2, .int z2), (3, .int z3), (4, .int z4), (5, .int z5), (6, .int z6), (7, .int z7), (8, .int z8), (9, .int z9), (10, .int z10), (11, .int z11), (12, .int z12)] [] z 0 0 rSi (K58 z z0 z1 z2 z3 z4 z5 z6 z7 z8 z9 z10 z11 z12)) (h : AH) (x0 : Nat) (x1 : Int32) (x2 : Int32) (x3 : Int32) (x4 : Int32) (x5 : Int32) (x6 : Int32) (x7 : Int32) (x8 : Int32) (x10 : Int32) (x11 : Int32) (x12 : Int32) (x13 : Int32) (s13 : Int32) : AO l g M_X12_foretold false h0 148 [(0, .ref x0), (1, .int x1), (2, .int x2), (3, .int x3), (4, .int x4), (5, .int x5), (6, .int x6), (7, .int x7), (8, .int x8), (10, .int x10), (11, .int x11), (12, .int x12), (13, .int x13)] [.int s13] h 0 0 rSi (f_X12_foretold_b148 N K58 h x0 x1 x2 x3 x4 x5 x6 x7 x8 x10 x11 x12 x13 s13) := by
  unfold f_X12_foretold_b148
  refine a_istore (lc2 := [(9, .int s13), (0, .ref x0), (1, .int x1), (2, .int x2), (3, .int x3), (4, .int x4), (5, .int x5), (6, .int x6), (7, .int x7), (8, .int x8), (10, .int x10), (11, .int x11), (12, .int x12), (13, .int x13)]) dX12_foretold_148 (by decide) rfl ?_
  refine a_iload dX12_foretold_150 10 rfl ?_
  refine a_iload dX12_foretold_152 13 rfl ?_
  refine a_iadd dX12_foretold_154 ?_
  refine a_istore (lc2 := [(10, .int (x10 + x13)), (9, .int s13), (0, .ref x0), (1, .int x1), (2, .int x2), (3, .int x3), (4, .int x4), (5, .int x5), (6, .int x6), (7, .int x7), (8, .int x8), (11, .int x11), (12, .int x12), (13, .int x13)]) dX12_foretold_155 (by decide) rfl ?_
  refine a_iinc (q := 11) (v := (x11 + 1)) (lc2 := [(11, .int (x11 + 1)), (10, .int (x10 + x13)), (9, .int s13), (0, .ref x0), (1, .int x1), (2, .int x2), (3, .int x3), (4, .int x4), (5, .int x5), (6, .int x6), (7, .int x7), (8, .int x8), (12, .int x12), (13, .int x13)]) dX12_foretold_157 rfl rfl (by decide) rfl ?_
  refine a_pick (lc2 := [(0, .ref x0), (1, .int x1), (2, .int x2), (3, .int x3), (4, .int x4), (5, .int x5), (6, .int x6), (7, .int x7), (8, .int x8), (9, .int s13), (10, .int (x10 + x13)), (11, .int (x11 + 1)), (12, .int x12)]) [3, 4, 5, 6, 7, 8, 9, 10, 11, 2, 1, 0, 12] rfl ?_
  exact t_X12_foretold_b160 h0 N K58 hK58 h x0 x1 x2 x3 x4 x5 x6 x7 x8 s13 (x10 + x13) (x11 + 1) x12
set_option maxRecDepth 100000 in
set_option maxHeartbeats 4000000 in
theorem t_X12_foretold_b132 (h0 : AH) (N : Nat) (K58 : AH → Nat → Int32 → Int32 → Int32 → Int32 → Int32 → Int32 → Int32 → Int32 → Int32 → Int32 → Int32 → Int32 → Option (Int32 × AH)) (hK58 : ∀ (z : AH) (z0 : Nat) (z1 : Int32) (z2 : Int32) (z3 : Int32) (z4 : Int32) (z5 : Int32) (z6 : Int32) (z7 : Int32) (z8 : Int32) (z9 : Int32) (z10 : Int32) (z11 : Int32) (z12 : Int32), AO l g M_X12_foretold false h0 58 [(0, .ref z0), (1, .int z1), (2, .int z2), (3, .int z3), (4, .int z4), (5, .int z5), (6, .int z6), (7, .int z7), (8, .int z8), (9, .int z9), (10, .int z10), (11, .int z11), (12, .int z12)] [] z 0 0 rSi (K58 z z0 z1 z2 z3 z4 z5 z6 z7 z8 z9 z10 z11 z12)) (h : AH) (x0 : Nat) (x1 : Int32) (x2 : Int32) (x3 : Int32) (x4 : Int32) (x5 : Int32) (x6 : Int32) (x7 : Int32) (x9 : Int32) (x10 : Int32) (x11 : Int32) (x12 : Int32) (x13 : Int32) (s13 : Int32) : AO l g M_X12_foretold false h0 132 [(0, .ref x0), (1, .int x1), (2, .int x2), (3, .int x3), (4, .int x4), (5, .int x5), (6, .int x6), (7, .int x7), (9, .int x9), (10, .int x10), (11, .int x11), (12, .int x12), (13, .int x13)] [.int s13] h 0 0 rSi (f_X12_foretold_b132 N K58 h x0 x1 x2 x3 x4 x5 x6 x7 x9 x10 x11 x12 x13 s13) := by
  unfold f_X12_foretold_b132
  refine a_istore (lc2 := [(8, .int s13), (0, .ref x0), (1, .int x1), (2, .int x2), (3, .int x3), (4, .int x4), (5, .int x5), (6, .int x6), (7, .int x7), (9, .int x9), (10, .int x10), (11, .int x11), (12, .int x12), (13, .int x13)]) dX12_foretold_132 (by decide) rfl ?_
  refine a_iload dX12_foretold_134 13 rfl ?_
  refine a_iload dX12_foretold_136 9 rfl ?_
  refine a_icmp_le 146 dX12_foretold_138 (by decide) (fun c22 => ?_) (fun c22 => ?_)
  · refine a_iload dX12_foretold_146 9 rfl ?_
    refine a_pick (lc2 := [(0, .ref x0), (1, .int x1), (2, .int x2), (3, .int x3), (4, .int x4), (5, .int x5), (6, .int x6), (7, .int x7), (8, .int s13), (10, .int x10), (11, .int x11), (12, .int x12), (13, .int x13)]) [1, 2, 3, 4, 5, 6, 7, 8, 0, 10, 11, 12, 13] rfl ?_
    exact t_X12_foretold_b148 h0 N K58 hK58 h x0 x1 x2 x3 x4 x5 x6 x7 s13 x10 x11 x12 x13 x9
  · refine a_iload dX12_foretold_141 13 rfl ?_
    refine a_goto 148 dX12_foretold_143 (by decide) ?_
    refine a_pick (lc2 := [(0, .ref x0), (1, .int x1), (2, .int x2), (3, .int x3), (4, .int x4), (5, .int x5), (6, .int x6), (7, .int x7), (8, .int s13), (10, .int x10), (11, .int x11), (12, .int x12), (13, .int x13)]) [1, 2, 3, 4, 5, 6, 7, 8, 0, 10, 11, 12, 13] rfl ?_
    exact t_X12_foretold_b148 h0 N K58 hK58 h x0 x1 x2 x3 x4 x5 x6 x7 s13 x10 x11 x12 x13 x13
set_option maxRecDepth 100000 in
set_option maxHeartbeats 4000000 in
theorem t_X12_foretold_b125 (h0 : AH) (N : Nat) (K58 : AH → Nat → Int32 → Int32 → Int32 → Int32 → Int32 → Int32 → Int32 → Int32 → Int32 → Int32 → Int32 → Int32 → Option (Int32 × AH)) (hK58 : ∀ (z : AH) (z0 : Nat) (z1 : Int32) (z2 : Int32) (z3 : Int32) (z4 : Int32) (z5 : Int32) (z6 : Int32) (z7 : Int32) (z8 : Int32) (z9 : Int32) (z10 : Int32) (z11 : Int32) (z12 : Int32), AO l g M_X12_foretold false h0 58 [(0, .ref z0), (1, .int z1), (2, .int z2), (3, .int z3), (4, .int z4), (5, .int z5), (6, .int z6), (7, .int z7), (8, .int z8), (9, .int z9), (10, .int z10), (11, .int z11), (12, .int z12)] [] z 0 0 rSi (K58 z z0 z1 z2 z3 z4 z5 z6 z7 z8 z9 z10 z11 z12)) (h : AH) (x0 : Nat) (x1 : Int32) (x2 : Int32) (x3 : Int32) (x4 : Int32) (x5 : Int32) (x6 : Int32) (x7 : Int32) (x9 : Int32) (x10 : Int32) (x11 : Int32) (x12 : Int32) (x13 : Int32) : AO l g M_X12_foretold false h0 125 [(0, .ref x0), (1, .int x1), (2, .int x2), (3, .int x3), (4, .int x4), (5, .int x5), (6, .int x6), (7, .int x7), (9, .int x9), (10, .int x10), (11, .int x11), (12, .int x12), (13, .int x13)] [] h 0 0 rSi (f_X12_foretold_b125 N K58 h x0 x1 x2 x3 x4 x5 x6 x7 x9 x10 x11 x12 x13) := by
  unfold f_X12_foretold_b125
  refine a_iload dX12_foretold_125 12 rfl ?_
  refine a_goto 132 dX12_foretold_127 (by decide) ?_
  exact t_X12_foretold_b132 h0 N K58 hK58 h x0 x1 x2 x3 x4 x5 x6 x7 x9 x10 x11 x12 x13 x13
set_option maxRecDepth 100000 in
set_option maxHeartbeats 4000000 in
theorem t_X12_foretold_b58_body (h0 : AH) (N : Nat) (K58 : AH → Nat → Int32 → Int32 → Int32 → Int32 → Int32 → Int32 → Int32 → Int32 → Int32 → Int32 → Int32 → Int32 → Option (Int32 × AH)) (hK58 : ∀ (z : AH) (z0 : Nat) (z1 : Int32) (z2 : Int32) (z3 : Int32) (z4 : Int32) (z5 : Int32) (z6 : Int32) (z7 : Int32) (z8 : Int32) (z9 : Int32) (z10 : Int32) (z11 : Int32) (z12 : Int32), AO l g M_X12_foretold false h0 58 [(0, .ref z0), (1, .int z1), (2, .int z2), (3, .int z3), (4, .int z4), (5, .int z5), (6, .int z6), (7, .int z7), (8, .int z8), (9, .int z9), (10, .int z10), (11, .int z11), (12, .int z12)] [] z 0 0 rSi (K58 z z0 z1 z2 z3 z4 z5 z6 z7 z8 z9 z10 z11 z12)) (h : AH) (x0 : Nat) (x1 : Int32) (x2 : Int32) (x3 : Int32) (x4 : Int32) (x5 : Int32) (x6 : Int32) (x7 : Int32) (x8 : Int32) (x9 : Int32) (x10 : Int32) (x11 : Int32) (x12 : Int32) : AO l g M_X12_foretold false h0 58 [(0, .ref x0), (1, .int x1), (2, .int x2), (3, .int x3), (4, .int x4), (5, .int x5), (6, .int x6), (7, .int x7), (8, .int x8), (9, .int x9), (10, .int x10), (11, .int x11), (12, .int x12)] [] h 0 0 rSi (f_X12_foretold_b58_body N K58 h x0 x1 x2 x3 x4 x5 x6 x7 x8 x9 x10 x11 x12) := by
  unfold f_X12_foretold_b58_body
  refine a_iload dX12_foretold_58 12 rfl ?_
  refine a_bipush (v := 16) dX12_foretold_60 (by decide) ?_
  refine a_icmp_ge 166 dX12_foretold_62 (by decide) (fun c9 => ?_) (fun c9 => ?_)
  · refine a_iload dX12_foretold_166 7 rfl ?_
    refine a_if_ne 176 dX12_foretold_168 (by decide) (fun c10 => ?_) (fun c10 => ?_)
    · refine a_iload dX12_foretold_171 8 rfl ?_
      refine a_goto 200 dX12_foretold_173 (by decide) ?_
      exact a_iret dX12_foretold_200 rfl rfl (by decide) (by decide)
    · refine a_iload dX12_foretold_176 7 rfl ?_
      refine a_iconst (v := 1) dX12_foretold_178 (by decide) ?_
      refine a_icmp_ne 187 dX12_foretold_179 (by decide) (fun c11 => ?_) (fun c11 => ?_)
      · refine a_iload dX12_foretold_182 9 rfl ?_
        refine a_goto 200 dX12_foretold_184 (by decide) ?_
        exact a_iret dX12_foretold_200 rfl rfl (by decide) (by decide)
      · refine a_iload dX12_foretold_187 7 rfl ?_
        refine a_iconst (v := 2) dX12_foretold_189 (by decide) ?_
        refine a_icmp_ne 198 dX12_foretold_190 (by decide) (fun c12 => ?_) (fun c12 => ?_)
        · refine a_iload dX12_foretold_193 10 rfl ?_
          refine a_goto 200 dX12_foretold_195 (by decide) ?_
          exact a_iret dX12_foretold_200 rfl rfl (by decide) (by decide)
        · refine a_iload dX12_foretold_198 11 rfl ?_
          exact a_iret dX12_foretold_200 rfl rfl (by decide) (by decide)
  · refine a_iload dX12_foretold_65 12 rfl ?_
    refine a_iload_n dX12_foretold_67 rfl 3 rfl ?_
    refine a_icmp_eq 160 dX12_foretold_68 (by decide) (fun c13 => ?_) (fun c13 => ?_)
    · exact t_X12_foretold_b160 h0 N K58 hK58 h x0 x1 x2 x3 x4 x5 x6 x7 x8 x9 x10 x11 x12
    · refine a_aload_n dX12_foretold_71 rfl 0 rfl ?_
      refine a_iload_n dX12_foretold_72 rfl 2 rfl ?_
      refine a_iload dX12_foretold_73 12 rfl ?_
      refine a_cV_Pi (r := x0) (ci := 13) (as := [.int x2, .int x12]) (st := []) dX12_foretold_75 (c_X12_isKnown l g h N x0 x2 x12) rfl km_X12_isKnown (hm_X12_isKnown) rfl (by decide) rfl (fun _ ee => g_X12_isKnown ee) w_methodLink_RainCoverModel_392 w_instanceMethod_RainCoverModel_isKnown__II_Z w_selects_RainCoverModel_RainCoverModel_isKnown__II_Z_RainCoverModel_isKnown__II_Z ⟨⟨by decide, by decide⟩, ⟨by decide, by decide⟩⟩ (Nat.le_of_ble_eq_true rfl) (fun v14 => ?_)
      refine a_if_eq 160 dX12_foretold_78 (by decide) (fun c15 => ?_) (fun c15 => ?_)
      · exact t_X12_foretold_b160 h0 N K58 hK58 h x0 x1 x2 x3 x4 x5 x6 x7 x8 x9 x10 x11 x12
      · refine a_aload_n dX12_foretold_81 rfl 0 rfl ?_
        refine a_iload dX12_foretold_82 12 rfl ?_
        refine a_puti kc13 72 dX12_foretold_84 (by decide) rfl w_fieldLink_RainCoverModel_307 rfl rfl (fun h16 => ?_)
        refine a_aload_n dX12_foretold_87 rfl 0 rfl ?_
        refine a_iload dX12_foretold_88 4 rfl ?_
        refine a_puti kc13 73 dX12_foretold_90 (by decide) rfl w_fieldLink_RainCoverModel_188 rfl rfl (fun h17 => ?_)
        refine a_aload_n dX12_foretold_93 rfl 0 rfl ?_
        refine a_iconst (v := 0) dX12_foretold_94 (by decide) ?_
        refine a_iload_n dX12_foretold_95 rfl 1 rfl ?_
        refine a_iload_n dX12_foretold_96 rfl 2 rfl ?_
        refine a_iload_n dX12_foretold_97 rfl 3 rfl ?_
        refine a_iload dX12_foretold_98 5 rfl ?_
        refine a_iload dX12_foretold_100 6 rfl ?_
        refine a_cV_Pi (r := x0) (ci := 13) (as := [.int 0, .int x1, .int x2, .int x3, .int x5, .int x6]) (st := []) dX12_foretold_102 (c_X12_payOf l g h17 N x0 0 x1 x2 x3 x5 x6) rfl km_X12_payOf (hm_X12_payOf) rfl (by decide) rfl (fun _ ee => g_X12_payOf ee) w_methodLink_RainCoverModel_331 w_instanceMethod_RainCoverModel_payOf__IIIIII_I w_selects_RainCoverModel_RainCoverModel_payOf__IIIIII_I_RainCoverModel_payOf__IIIIII_I ⟨⟨by decide, by decide⟩, ⟨by decide, by decide⟩⟩ (Nat.le_of_ble_eq_true rfl) (fun v18 => ?_)
        refine a_istore (lc2 := [(13, .int v18), (0, .ref x0), (1, .int x1), (2, .int x2), (3, .int x3), (4, .int x4), (5, .int x5), (6, .int x6), (7, .int x7), (8, .int x8), (9, .int x9), (10, .int x10), (11, .int x11), (12, .int x12)]) dX12_foretold_105 (by decide) rfl ?_
        refine a_aload_n dX12_foretold_107 rfl 1 rfl ?_
        refine a_bipush (v := 12) dX12_foretold_108 (by decide) ?_
        refine a_puti kc13 73 dX12_foretold_110 (by decide) rfl w_fieldLink_RainCoverModel_188 rfl rfl (fun h19 => ?_)
        refine a_iload dX12_foretold_113 12 rfl ?_
        refine a_if_eq 125 dX12_foretold_115 (by decide) (fun c20 => ?_) (fun c20 => ?_)
        · refine a_pick (lc2 := [(0, .ref x0), (1, .int x1), (2, .int x2), (3, .int x3), (4, .int x4), (5, .int x5), (6, .int x6), (7, .int x7), (9, .int x9), (10, .int x10), (11, .int x11), (12, .int x12), (13, .int v18)]) [1, 2, 3, 4, 5, 6, 7, 8, 10, 11, 12, 13, 0] rfl ?_
          exact t_X12_foretold_b125 h0 N K58 hK58 h19 x0 x1 x2 x3 x4 x5 x6 x7 x9 x10 x11 x12 v18
        · refine a_iload dX12_foretold_118 0 rfl ?_
          refine a_iload dX12_foretold_120 9 rfl ?_
          refine a_icmp_ge 130 dX12_foretold_122 (by decide) (fun c21 => ?_) (fun c21 => ?_)
          · refine a_iload dX12_foretold_130 9 rfl ?_
            refine a_pick (lc2 := [(0, .ref x0), (1, .int x1), (2, .int x2), (3, .int x3), (4, .int x4), (5, .int x5), (6, .int x6), (7, .int x7), (9, .int x9), (10, .int x10), (11, .int x11), (12, .int x12), (13, .int v18)]) [1, 2, 3, 4, 5, 6, 7, 8, 10, 11, 12, 13, 0] rfl ?_
            exact t_X12_foretold_b132 h0 N K58 hK58 h19 x0 x1 x2 x3 x4 x5 x6 x7 x9 x10 x11 x12 v18 x8
          · refine a_pick (lc2 := [(0, .ref x0), (1, .int x1), (2, .int x2), (3, .int x3), (4, .int x4), (5, .int x5), (6, .int x6), (7, .int x7), (9, .int x9), (10, .int x10), (11, .int x11), (12, .int x12), (13, .int v18)]) [1, 2, 3, 4, 5, 6, 7, 8, 10, 11, 12, 13, 0] rfl ?_
            exact t_X12_foretold_b125 h0 N K58 hK58 h19 x0 x1 x2 x3 x4 x5 x6 x7 x9 x10 x11 x12 v18
set_option maxRecDepth 100000 in
set_option maxHeartbeats 4000000 in
theorem t_X12_foretold_b58 (h0 : AH) (N : Nat) : ∀ (n : Nat) (h : AH) (x0 : Nat) (x1 : Int32) (x2 : Int32) (x3 : Int32) (x4 : Int32) (x5 : Int32) (x6 : Int32) (x7 : Int32) (x8 : Int32) (x9 : Int32) (x10 : Int32) (x11 : Int32) (x12 : Int32) , AO l g M_X12_foretold false h0 58 [(0, .ref x0), (1, .int x1), (2, .int x2), (3, .int x3), (4, .int x4), (5, .int x5), (6, .int x6), (7, .int x7), (8, .int x8), (9, .int x9), (10, .int x10), (11, .int x11), (12, .int x12)] [] h 0 0 rSi (f_X12_foretold_b58 N  n h x0 x1 x2 x3 x4 x5 x6 x7 x8 x9 x10 x11 x12) := by
  intro n
  induction n with
  | zero => intro h x0 x1 x2 x3 x4 x5 x6 x7 x8 x9 x10 x11 x12; exact a_eq rfl a_none
  | succ n ih => intro h x0 x1 x2 x3 x4 x5 x6 x7 x8 x9 x10 x11 x12; exact a_eq rfl (t_X12_foretold_b58_body h0 N  (f_X12_foretold_b58 N  n) ih h x0 x1 x2 x3 x4 x5 x6 x7 x8 x9 x10 x11 x12)
end
set_option maxRecDepth 100000 in
set_option maxHeartbeats 4000000 in
theorem c_X12_foretold (l : Launch) (g : GG) (h0 : AH) (N : Nat) (p0 : Nat) (p1 : Int32) (p2 : Int32) (p3 : Int32) (p4 : Int32) (p5 : Int32) (p6 : Int32) (p7 : Int32) : CN l g yX12_foretold M_X12_foretold false [.ref p0, .int p1, .int p2, .int p3, .int p4, .int p5, .int p6, .int p7] h0 rSi (f_X12_foretold h0 N p0 p1 p2 p3 p4 p5 p6 p7) := by
  refine CN.of (by decide) rfl (fun hh => by first | rfl | cases hh) (Nat.le_of_ble_eq_true rfl) ?_
  unfold f_X12_foretold
  refine a_gd (fun hkd => ?_)
  refine a_aload_n dX12_foretold_0 rfl 0 rfl ?_
  refine a_iload_n dX12_foretold_1 rfl 1 rfl ?_
  refine a_iload_n dX12_foretold_2 rfl 2 rfl ?_
  refine a_iload dX12_foretold_3 5 rfl ?_
  refine a_iload dX12_foretold_5 6 rfl ?_
  refine a_cV_Pi (r := p0) (ci := 13) (as := [.int p1, .int p2, .int p5, .int p6]) (st := []) dX12_foretold_7 (c_X12_isAsked l g h0 p0 p1 p2 p5 p6) rfl km_X12_isAsked (hm_X12_isAsked) rfl (by decide) rfl (fun _ ee => g_X12_isAsked ee) w_methodLink_RainCoverModel_395 w_instanceMethod_RainCoverModel_isAsked__IIII_Z w_selects_RainCoverModel_RainCoverModel_isAsked__IIII_Z_RainCoverModel_isAsked__IIII_Z ⟨⟨by decide, by decide⟩, ⟨by decide, by decide⟩⟩ (Nat.le_of_ble_eq_true rfl) (fun v1 => ?_)
  refine a_if_eq 41 dX12_foretold_10 (by decide) (fun c2 => ?_) (fun c2 => ?_)
  · refine a_iconst (v := (-1)) dX12_foretold_41 (by decide) ?_
    exact a_iret dX12_foretold_42 rfl rfl (by decide) (by decide)
  · refine a_iload_n dX12_foretold_13 rfl 3 rfl ?_
    refine a_cS_Pi (as := [.int p3]) (st := []) dX12_foretold_14 (c_X12_isSeason l g h0 p3) rfl km_X12_isSeason (hm_X12_isSeason) w_methodLink_RainCoverModel_221 w_static_RainCoverModel_isSeason__I_Z ⟨⟨by decide, by decide⟩, ⟨by decide, by decide⟩⟩ (Nat.le_of_ble_eq_true rfl) (fun v3 => ?_)
    refine a_if_eq 41 dX12_foretold_17 (by decide) (fun c4 => ?_) (fun c4 => ?_)
    · refine a_iconst (v := (-1)) dX12_foretold_41 (by decide) ?_
      exact a_iret dX12_foretold_42 rfl rfl (by decide) (by decide)
    · refine a_iload dX12_foretold_20 4 rfl ?_
      refine a_iconst (v := 0) dX12_foretold_22 (by decide) ?_
      refine a_bipush (v := 12) dX12_foretold_23 (by decide) ?_
      refine a_cS_Pi (as := [.int p4, .int 0, .int 12]) (st := []) dX12_foretold_25 (c_X12_in l g h0 p4 0 12) rfl km_X12_in (hm_X12_in) w_methodLink_RainCoverModel_204 w_static_RainCoverModel_in__III_Z ⟨⟨by decide, by decide⟩, ⟨by decide, by decide⟩⟩ (Nat.le_of_ble_eq_true rfl) (fun v5 => ?_)
      refine a_if_eq 41 dX12_foretold_28 (by decide) (fun c6 => ?_) (fun c6 => ?_)
      · refine a_iconst (v := (-1)) dX12_foretold_41 (by decide) ?_
        exact a_iret dX12_foretold_42 rfl rfl (by decide) (by decide)
      · refine a_iload dX12_foretold_31 7 rfl ?_
        refine a_iconst (v := 0) dX12_foretold_33 (by decide) ?_
        refine a_iconst (v := 3) dX12_foretold_34 (by decide) ?_
        refine a_cS_Pi (as := [.int p7, .int 0, .int 3]) (st := []) dX12_foretold_35 (c_X12_in l g h0 p7 0 3) rfl km_X12_in (hm_X12_in) w_methodLink_RainCoverModel_204 w_static_RainCoverModel_in__III_Z ⟨⟨by decide, by decide⟩, ⟨by decide, by decide⟩⟩ (Nat.le_of_ble_eq_true rfl) (fun v7 => ?_)
        refine a_if_ne 43 dX12_foretold_38 (by decide) (fun c8 => ?_) (fun c8 => ?_)
        · refine a_iconst (v := (-1)) dX12_foretold_41 (by decide) ?_
          exact a_iret dX12_foretold_42 rfl rfl (by decide) (by decide)
        · refine a_iconst (v := 0) dX12_foretold_43 (by decide) ?_
          refine a_istore (lc2 := [(8, .int 0), (0, .ref p0), (1, .int p1), (2, .int p2), (3, .int p3), (4, .int p4), (5, .int p5), (6, .int p6), (7, .int p7)]) dX12_foretold_44 (by decide) rfl ?_
          refine a_iconst (v := 0) dX12_foretold_46 (by decide) ?_
          refine a_istore (lc2 := [(9, .int 0), (8, .int 0), (0, .ref p0), (1, .int p1), (2, .int p2), (3, .int p3), (4, .int p4), (5, .int p5), (6, .int p6), (7, .int p7)]) dX12_foretold_47 (by decide) rfl ?_
          refine a_iconst (v := 0) dX12_foretold_49 (by decide) ?_
          refine a_istore (lc2 := [(10, .int 0), (9, .int 0), (8, .int 0), (0, .ref p0), (1, .int p1), (2, .int p2), (3, .int p3), (4, .int p4), (5, .int p5), (6, .int p6), (7, .int p7)]) dX12_foretold_50 (by decide) rfl ?_
          refine a_iconst (v := 0) dX12_foretold_52 (by decide) ?_
          refine a_istore (lc2 := [(11, .int 0), (10, .int 0), (9, .int 0), (8, .int 0), (0, .ref p0), (1, .int p1), (2, .int p2), (3, .int p3), (4, .int p4), (5, .int p5), (6, .int p6), (7, .int p7)]) dX12_foretold_53 (by decide) rfl ?_
          refine a_iconst (v := 0) dX12_foretold_55 (by decide) ?_
          refine a_istore (lc2 := [(12, .int 0), (11, .int 0), (10, .int 0), (9, .int 0), (8, .int 0), (0, .ref p0), (1, .int p1), (2, .int p2), (3, .int p3), (4, .int p4), (5, .int p5), (6, .int p6), (7, .int p7)]) dX12_foretold_56 (by decide) rfl ?_
          refine a_pick (lc2 := [(0, .ref p0), (1, .int p1), (2, .int p2), (3, .int p3), (4, .int p4), (5, .int p5), (6, .int p6), (7, .int p7), (8, .int 0), (9, .int 0), (10, .int 0), (11, .int 0), (12, .int 0)]) [5, 6, 7, 8, 9, 10, 11, 12, 4, 3, 2, 1, 0] rfl ?_
          exact t_X12_foretold_b58 h0 N N h0 p0 p1 p2 p3 p4 p5 p6 p7 0 0 0 0 0
