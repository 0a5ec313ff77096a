theorem dX12_isGood_0 : decode cX12_isGood 0 = .ok (.aload_n 0, 1) := by decide +kernel
theorem dX12_isGood_1 : decode cX12_isGood 1 = .ok (.getfield 46, 3) := by decide +kernel
theorem dX12_isGood_4 : decode cX12_isGood 4 = .ok (.iload_n 1, 1) := by decide +kernel
theorem dX12_isGood_5 : decode cX12_isGood 5 = .ok (.baload, 1) := by decide +kernel
theorem dX12_isGood_6 : decode cX12_isGood 6 = .ok (.ifCond .eq 12, 3) := by decide +kernel
theorem dX12_isGood_9 : decode cX12_isGood 9 = .ok (.aload_n 0, 1) := by decide +kernel
theorem dX12_isGood_10 : decode cX12_isGood 10 = .ok (.getfield 52, 3) := by decide +kernel
theorem dX12_isGood_13 : decode cX12_isGood 13 = .ok (.iload_n 1, 1) := by decide +kernel
theorem dX12_isGood_14 : decode cX12_isGood 14 = .ok (.iaload, 1) := by decide +kernel
theorem dX12_isGood_15 : decode cX12_isGood 15 = .ok (.ifCond .le 7, 3) := by decide +kernel
theorem dX12_isGood_18 : decode cX12_isGood 18 = .ok (.iconst 1, 1) := by decide +kernel
theorem dX12_isGood_19 : decode cX12_isGood 19 = .ok (.goto 4, 3) := by decide +kernel
theorem dX12_isGood_22 : decode cX12_isGood 22 = .ok (.iconst 0, 1) := by decide +kernel
theorem dX12_isGood_23 : decode cX12_isGood 23 = .ok (.istore_n 2, 1) := by decide +kernel
theorem dX12_isGood_24 : decode cX12_isGood 24 = .ok (.iconst 4, 1) := by decide +kernel
theorem dX12_isGood_25 : decode cX12_isGood 25 = .ok (.iload_n 1, 1) := by decide +kernel
theorem dX12_isGood_26 : decode cX12_isGood 26 = .ok (.imul, 1) := by decide +kernel
theorem dX12_isGood_27 : decode cX12_isGood 27 = .ok (.istore_n 3, 1) := by decide +kernel
theorem dX12_isGood_28 : decode cX12_isGood 28 = .ok (.iload_n 3, 1) := by decide +kernel
theorem dX12_isGood_29 : decode cX12_isGood 29 = .ok (.iconst 4, 1) := by decide +kernel
theorem dX12_isGood_30 : decode cX12_isGood 30 = .ok (.iload_n 1, 1) := by decide +kernel
theorem dX12_isGood_31 : decode cX12_isGood 31 = .ok (.imul, 1) := by decide +kernel
theorem dX12_isGood_32 : decode cX12_isGood 32 = .ok (.aload_n 0, 1) := by decide +kernel
theorem dX12_isGood_33 : decode cX12_isGood 33 = .ok (.getfield 61, 3) := by decide +kernel
theorem dX12_isGood_36 : decode cX12_isGood 36 = .ok (.iload_n 1, 1) := by decide +kernel
theorem dX12_isGood_37 : decode cX12_isGood 37 = .ok (.iaload, 1) := by decide +kernel
theorem dX12_isGood_38 : decode cX12_isGood 38 = .ok (.iadd, 1) := by decide +kernel
theorem dX12_isGood_39 : decode cX12_isGood 39 = .ok (.if_icmp .ge 45, 3) := by decide +kernel
theorem dX12_isGood_42 : decode cX12_isGood 42 = .ok (.iload_n 2, 1) := by decide +kernel
theorem dX12_isGood_43 : decode cX12_isGood 43 = .ok (.ifCond .eq 33, 3) := by decide +kernel
theorem dX12_isGood_46 : decode cX12_isGood 46 = .ok (.aload_n 0, 1) := by decide +kernel
theorem dX12_isGood_47 : decode cX12_isGood 47 = .ok (.getfield 67, 3) := by decide +kernel
theorem dX12_isGood_50 : decode cX12_isGood 50 = .ok (.iload_n 3, 1) := by decide +kernel
theorem dX12_isGood_51 : decode cX12_isGood 51 = .ok (.iaload, 1) := by decide +kernel
theorem dX12_isGood_52 : decode cX12_isGood 52 = .ok (.aload_n 0, 1) := by decide +kernel
theorem dX12_isGood_53 : decode cX12_isGood 53 = .ok (.getfield 70, 3) := by decide +kernel
theorem dX12_isGood_56 : decode cX12_isGood 56 = .ok (.iload_n 3, 1) := by decide +kernel
theorem dX12_isGood_57 : decode cX12_isGood 57 = .ok (.iaload, 1) := by decide +kernel
theorem dX12_isGood_58 : decode cX12_isGood 58 = .ok (.if_icmp .gt 18, 3) := by decide +kernel
theorem dX12_isGood_61 : decode cX12_isGood 61 = .ok (.aload_n 0, 1) := by decide +kernel
theorem dX12_isGood_62 : decode cX12_isGood 62 = .ok (.getfield 70, 3) := by decide +kernel
theorem dX12_isGood_65 : decode cX12_isGood 65 = .ok (.iload_n 3, 1) := by decide +kernel
theorem dX12_isGood_66 : decode cX12_isGood 66 = .ok (.iaload, 1) := by decide +kernel
theorem dX12_isGood_67 : decode cX12_isGood 67 = .ok (.bipush 11, 2) := by decide +kernel
theorem dX12_isGood_69 : decode cX12_isGood 69 = .ok (.if_icmp .gt 7, 3) := by decide +kernel
theorem dX12_isGood_72 : decode cX12_isGood 72 = .ok (.iconst 1, 1) := by decide +kernel
theorem dX12_isGood_73 : decode cX12_isGood 73 = .ok (.goto 4, 3) := by decide +kernel
theorem dX12_isGood_76 : decode cX12_isGood 76 = .ok (.iconst 0, 1) := by decide +kernel
theorem dX12_isGood_77 : decode cX12_isGood 77 = .ok (.istore_n 2, 1) := by decide +kernel
theorem dX12_isGood_78 : decode cX12_isGood 78 = .ok (.iinc 3 1, 3) := by decide +kernel
theorem dX12_isGood_81 : decode cX12_isGood 81 = .ok (.goto (-53), 3) := by decide +kernel
theorem dX12_isGood_84 : decode cX12_isGood 84 = .ok (.iload_n 2, 1) := by decide +kernel
theorem dX12_isGood_85 : decode cX12_isGood 85 = .ok (.ireturn, 1) := by decide +kernel
abbrev M_X12_isGood : MI := (RX12, cX12_isGood, 4, (some .boolean), ({ frames := 0, cells := 0, slots := 0, locals := 0 } : Room), 0, 0, false)
def f_X12_isGood_b77 (h : AH) (N : Nat) (K28 : Nat → Int32 → Int32 → Int32 → Option Int32) (x0 : Nat) (x1 : Int32) (x3 : Int32) (s3 : Int32) : Option Int32 := K28 x0 x1 s3 (x3 + 1)
def f_X12_isGood_b76 (h : AH) (N : Nat) (K28 : Nat → Int32 → Int32 → Int32 → Option Int32) (x0 : Nat) (x1 : Int32) (x3 : Int32) : Option Int32 := f_X12_isGood_b77 h N K28 x0 x1 x3 0
def f_X12_isGood_b28_body (h : AH) (N : Nat) (K28 : Nat → Int32 → Int32 → Int32 → Option Int32) (x0 : Nat) (x1 : Int32) (x2 : Int32) (x3 : Int32) : Option Int32 := (xgr h x0 13 19).bind fun v7 => (xia h v7 x1).bind fun v8 => (if ((4 * x1) + v8) ≤ x3 then (if x2 = 0 ∨ x2 = 1 then some x2 else none) else (if x2 = 0 then f_X12_isGood_b76 h N K28 x0 x1 x3 else (xgr h x0 13 21).bind fun v12 => (xia h v12 x3).bind fun v13 => (xgr h x0 13 22).bind fun v14 => (xia h v14 x3).bind fun v15 => (if v15 < v13 then f_X12_isGood_b76 h N K28 x0 x1 x3 else (xgr h x0 13 22).bind fun v17 => (xia h v17 x3).bind fun v18 => (if 11 < v18 then f_X12_isGood_b76 h N K28 x0 x1 x3 else f_X12_isGood_b77 h N K28 x0 x1 x3 1))))
def f_X12_isGood_b28 (h : AH) (N : Nat) : Nat → Nat → Int32 → Int32 → Int32 → Option Int32
  | 0, _, _, _, _ => none
  | n + 1, x0, x1, x2, x3 => f_X12_isGood_b28_body h N  (f_X12_isGood_b28 h N  n) x0 x1 x2 x3
def f_X12_isGood_b23 (h : AH) (N : Nat) (x0 : Nat) (x1 : Int32) (s2 : Int32) : Option Int32 := f_X12_isGood_b28 h N N x0 x1 s2 (4 * x1)
def f_X12_isGood_b18 (h : AH) (N : Nat) (x0 : Nat) (x1 : Int32) : Option Int32 := f_X12_isGood_b23 h N x0 x1 1
def f_X12_isGood (h : AH) (N : Nat) (p0 : Nat) (p1 : Int32) : Option Int32 := if kd h p0 = 13 + 1 then (xgr h p0 13 14).bind fun v1 => (xba h v1 p1).bind fun v2 => (if v2 = 0 then f_X12_isGood_b18 h N p0 p1 else (xgr h p0 13 16).bind fun v4 => (xia h v4 p1).bind fun v5 => (if v5 ≤ 0 then f_X12_isGood_b23 h N p0 p1 0 else f_X12_isGood_b18 h N p0 p1)) else none
theorem g_X12_isGood {h : AH} {N : Nat} {p0 : Nat} {p1 : Int32} {x : Int32} (e : f_X12_isGood h N p0 p1 = some x) : kd h p0 = 13 + 1 := by
  unfold f_X12_isGood at e
  by_cases hk : kd h p0 = 13 + 1
  · exact hk
  · rw [if_neg hk] at e
    cases e
theorem km_X12_isGood : KM yX12_isGood M_X12_isGood 1 := ⟨in_tb 1568 (by decide +kernel) rfl, in_tb 9 (by decide +kernel) rfl, by decide +kernel, rfl, rfl⟩
theorem hm_X12_isGood : M_X12_isGood.2.2.2.2.2.1 = 0 ∧ M_X12_isGood.2.2.2.2.2.2.1 = 0 := ⟨rfl, rfl⟩
section
variable {l : Launch} {g : GG}
set_option maxRecDepth 100000 in
set_option maxHeartbeats 4000000 in
theorem t_X12_isGood_b77 (h : AH) (N : Nat) (K28 : Nat → Int32 → Int32 → Int32 → Option Int32) (hK28 : ∀ (z0 : Nat) (z1 : Int32) (z2 : Int32) (z3 : Int32), AO l g M_X12_isGood false h 28 [(0, .ref z0), (1, .int z1), (2, .int z2), (3, .int z3)] [] h 0 0 (rPi h) (K28 z0 z1 z2 z3)) (x0 : Nat) (x1 : Int32) (x3 : Int32) (s3 : Int32) : AO l g M_X12_isGood false h 77 [(0, .ref x0), (1, .int x1), (3, .int x3)] [.int s3] h 0 0 (rPi h) (f_X12_isGood_b77 h N K28 x0 x1 x3 s3) := by
  unfold f_X12_isGood_b77
  refine a_istore_n (lc2 := [(2, .int s3), (0, .ref x0), (1, .int x1), (3, .int x3)]) dX12_isGood_77 rfl (by decide) rfl ?_
  refine a_iinc (q := 3) (v := (x3 + 1)) (lc2 := [(3, .int (x3 + 1)), (2, .int s3), (0, .ref x0), (1, .int x1)]) dX12_isGood_78 rfl rfl (by decide) rfl ?_
  refine a_goto 28 dX12_isGood_81 (by decide) ?_
  refine a_pick (lc2 := [(0, .ref x0), (1, .int x1), (2, .int s3), (3, .int (x3 + 1))]) [2, 3, 1, 0] rfl ?_
  exact hK28 x0 x1 s3 (x3 + 1)
set_option maxRecDepth 100000 in
set_option maxHeartbeats 4000000 in
theorem t_X12_isGood_b76 (h : AH) (N : Nat) (K28 : Nat → Int32 → Int32 → Int32 → Option Int32) (hK28 : ∀ (z0 : Nat) (z1 : Int32) (z2 : Int32) (z3 : Int32), AO l g M_X12_isGood false h 28 [(0, .ref z0), (1, .int z1), (2, .int z2), (3, .int z3)] [] h 0 0 (rPi h) (K28 z0 z1 z2 z3)) (x0 : Nat) (x1 : Int32) (x3 : Int32) : AO l g M_X12_isGood false h 76 [(0, .ref x0), (1, .int x1), (3, .int x3)] [] h 0 0 (rPi h) (f_X12_isGood_b76 h N K28 x0 x1 x3) := by
  unfold f_X12_isGood_b76
  refine a_iconst (v := 0) dX12_isGood_76 (by decide) ?_
  exact t_X12_isGood_b77 h N K28 hK28 x0 x1 x3 0
set_option maxRecDepth 100000 in
set_option maxHeartbeats 4000000 in
theorem t_X12_isGood_b28_body (h : AH) (N : Nat) (K28 : Nat → Int32 → Int32 → Int32 → Option Int32) (hK28 : ∀ (z0 : Nat) (z1 : Int32) (z2 : Int32) (z3 : Int32), AO l g M_X12_isGood false h 28 [(0, .ref z0), (1, .int z1), (2, .int z2), (3, .int z3)] [] h 0 0 (rPi h) (K28 z0 z1 z2 z3)) (x0 : Nat) (x1 : Int32) (x2 : Int32) (x3 : Int32) : AO l g M_X12_isGood false h 28 [(0, .ref x0), (1, .int x1), (2, .int x2), (3, .int x3)] [] h 0 0 (rPi h) (f_X12_isGood_b28_body h N K28 x0 x1 x2 x3) := by
  unfold f_X12_isGood_b28_body
  refine a_iload_n dX12_isGood_28 rfl 3 rfl ?_
  refine a_iconst (v := 4) dX12_isGood_29 (by decide) ?_
  refine a_iload_n dX12_isGood_30 rfl 1 rfl ?_
  refine a_imul dX12_isGood_31 ?_
  refine a_aload_n dX12_isGood_32 rfl 0 rfl ?_
  refine a_getr kc13 19 dX12_isGood_33 (by decide) rfl w_fieldLink_RainCoverModel_61 (fun v7 => ?_)
  refine a_iload_n dX12_isGood_36 rfl 1 rfl ?_
  refine a_iald dX12_isGood_37 (fun v8 => ?_)
  refine a_iadd dX12_isGood_38 ?_
  refine a_icmp_ge 84 dX12_isGood_39 (by decide) (fun c9 => ?_) (fun c9 => ?_)
  · refine a_iload_n dX12_isGood_84 rfl 2 rfl ?_
    exact a_gd (fun c10 => a_zret dX12_isGood_85 rfl c10 rfl (by decide) (by decide))
  · refine a_iload_n dX12_isGood_42 rfl 2 rfl ?_
    refine a_if_eq 76 dX12_isGood_43 (by decide) (fun c11 => ?_) (fun c11 => ?_)
    · refine a_pick (lc2 := [(0, .ref x0), (1, .int x1), (3, .int x3)]) [0, 1, 3] rfl ?_
      exact t_X12_isGood_b76 h N K28 hK28 x0 x1 x3
    · refine a_aload_n dX12_isGood_46 rfl 0 rfl ?_
      refine a_getr kc13 21 dX12_isGood_47 (by decide) rfl w_fieldLink_RainCoverModel_67 (fun v12 => ?_)
      refine a_iload_n dX12_isGood_50 rfl 3 rfl ?_
      refine a_iald dX12_isGood_51 (fun v13 => ?_)
      refine a_aload_n dX12_isGood_52 rfl 0 rfl ?_
      refine a_getr kc13 22 dX12_isGood_53 (by decide) rfl w_fieldLink_RainCoverModel_70 (fun v14 => ?_)
      refine a_iload_n dX12_isGood_56 rfl 3 rfl ?_
      refine a_iald dX12_isGood_57 (fun v15 => ?_)
      refine a_icmp_gt 76 dX12_isGood_58 (by decide) (fun c16 => ?_) (fun c16 => ?_)
      · refine a_pick (lc2 := [(0, .ref x0), (1, .int x1), (3, .int x3)]) [0, 1, 3] rfl ?_
        exact t_X12_isGood_b76 h N K28 hK28 x0 x1 x3
      · refine a_aload_n dX12_isGood_61 rfl 0 rfl ?_
        refine a_getr kc13 22 dX12_isGood_62 (by decide) rfl w_fieldLink_RainCoverModel_70 (fun v17 => ?_)
        refine a_iload_n dX12_isGood_65 rfl 3 rfl ?_
        refine a_iald dX12_isGood_66 (fun v18 => ?_)
        refine a_bipush (v := 11) dX12_isGood_67 (by decide) ?_
        refine a_icmp_gt 76 dX12_isGood_69 (by decide) (fun c19 => ?_) (fun c19 => ?_)
        · refine a_pick (lc2 := [(0, .ref x0), (1, .int x1), (3, .int x3)]) [0, 1, 3] rfl ?_
          exact t_X12_isGood_b76 h N K28 hK28 x0 x1 x3
        · refine a_iconst (v := 1) dX12_isGood_72 (by decide) ?_
          refine a_goto 77 dX12_isGood_73 (by decide) ?_
          refine a_pick (lc2 := [(0, .ref x0), (1, .int x1), (3, .int x3)]) [0, 1, 3] rfl ?_
          exact t_X12_isGood_b77 h N K28 hK28 x0 x1 x3 1
set_option maxRecDepth 100000 in
set_option maxHeartbeats 4000000 in
theorem t_X12_isGood_b28 (h : AH) (N : Nat) : ∀ (n : Nat) (x0 : Nat) (x1 : Int32) (x2 : Int32) (x3 : Int32) , AO l g M_X12_isGood false h 28 [(0, .ref x0), (1, .int x1), (2, .int x2), (3, .int x3)] [] h 0 0 (rPi h) (f_X12_isGood_b28 h N  n x0 x1 x2 x3) := by
  intro n
  induction n with
  | zero => intro x0 x1 x2 x3; exact a_eq rfl a_none
  | succ n ih => intro x0 x1 x2 x3; exact a_eq rfl (t_X12_isGood_b28_body h N  (f_X12_isGood_b28 h N  n) ih x0 x1 x2 x3)
set_option maxRecDepth 100000 in
set_option maxHeartbeats 4000000 in
theorem t_X12_isGood_b23 (h : AH) (N : Nat) (x0 : Nat) (x1 : Int32) (s2 : Int32) : AO l g M_X12_isGood false h 23 [(0, .ref x0), (1, .int x1)] [.int s2] h 0 0 (rPi h) (f_X12_isGood_b23 h N  x0 x1 s2) := by
  unfold f_X12_isGood_b23
  refine a_istore_n (lc2 := [(2, .int s2), (0, .ref x0), (1, .int x1)]) dX12_isGood_23 rfl (by decide) rfl ?_
  refine a_iconst (v := 4) dX12_isGood_24 (by decide) ?_
  refine a_iload_n dX12_isGood_25 rfl 2 rfl ?_
  refine a_imul dX12_isGood_26 ?_
  refine a_istore_n (lc2 := [(3, .int (4 * x1)), (2, .int s2), (0, .ref x0), (1, .int x1)]) dX12_isGood_27 rfl (by decide) rfl ?_
  refine a_pick (lc2 := [(0, .ref x0), (1, .int x1), (2, .int s2), (3, .int (4 * x1))]) [2, 3, 1, 0] rfl ?_
  exact t_X12_isGood_b28 h N N x0 x1 s2 (4 * x1)
set_option maxRecDepth 100000 in
set_option maxHeartbeats 4000000 in
theorem t_X12_isGood_b18 (h : AH) (N : Nat) (x0 : Nat) (x1 : Int32) : AO l g M_X12_isGood false h 18 [(0, .ref x0), (1, .int x1)] [] h 0 0 (rPi h) (f_X12_isGood_b18 h N  x0 x1) := by
  unfold f_X12_isGood_b18
  refine a_iconst (v := 1) dX12_isGood_18 (by decide) ?_
  refine a_goto 23 dX12_isGood_19 (by decide) ?_
  exact t_X12_isGood_b23 h N x0 x1 1
end
set_option maxRecDepth 100000 in
set_option maxHeartbeats 4000000 in
theorem c_X12_isGood (l : Launch) (g : GG) (h : AH) (N : Nat) (p0 : Nat) (p1 : Int32) : CN l g yX12_isGood M_X12_isGood false [.ref p0, .int p1] h ((rPi h)) (f_X12_isGood h N p0 p1) := by
  refine CN.of (by decide) rfl (fun hh => by first | rfl | cases hh) (Nat.le_of_ble_eq_true rfl) ?_
  unfold f_X12_isGood
  refine a_gd (fun hkd => ?_)
  refine a_aload_n dX12_isGood_0 rfl 0 rfl ?_
  refine a_getr kc13 14 dX12_isGood_1 (by decide) rfl w_fieldLink_RainCoverModel_46 (fun v1 => ?_)
  refine a_iload_n dX12_isGood_4 rfl 1 rfl ?_
  refine a_bald dX12_isGood_5 (fun v2 => ?_)
  refine a_if_eq 18 dX12_isGood_6 (by decide) (fun c3 => ?_) (fun c3 => ?_)
  · exact t_X12_isGood_b18 h N p0 p1
  · refine a_aload_n dX12_isGood_9 rfl 0 rfl ?_
    refine a_getr kc13 16 dX12_isGood_10 (by decide) rfl w_fieldLink_RainCoverModel_52 (fun v4 => ?_)
    refine a_iload_n dX12_isGood_13 rfl 1 rfl ?_
    refine a_iald dX12_isGood_14 (fun v5 => ?_)
    refine a_if_le 22 dX12_isGood_15 (by decide) (fun c6 => ?_) (fun c6 => ?_)
    · refine a_iconst (v := 0) dX12_isGood_22 (by decide) ?_
      exact t_X12_isGood_b23 h N p0 p1 0
    · exact t_X12_isGood_b18 h N p0 p1
theorem dX12_term_0 : decode cX12_term 0 = .ok (.aload_n 0, 1) := by decide +kernel
theorem dX12_term_1 : decode cX12_term 1 = .ok (.getfield 211, 3) := by decide +kernel
theorem dX12_term_4 : decode cX12_term 4 = .ok (.bipush 8, 2) := by decide +kernel
theorem dX12_term_6 : decode cX12_term 6 = .ok (.if_icmp .ne 6, 3) := by decide +kernel
theorem dX12_term_9 : decode cX12_term 9 = .ok (.bipush (-4), 2) := by decide +kernel
theorem dX12_term_11 : decode cX12_term 11 = .ok (.ireturn, 1) := by decide +kernel
theorem dX12_term_12 : decode cX12_term 12 = .ok (.aload_n 0, 1) := by decide +kernel
theorem dX12_term_13 : decode cX12_term 13 = .ok (.iconst 0, 1) := by decide +kernel
theorem dX12_term_14 : decode cX12_term 14 = .ok (.putfield 283, 3) := by decide +kernel
theorem dX12_term_17 : decode cX12_term 17 = .ok (.aload_n 0, 1) := by decide +kernel
theorem dX12_term_18 : decode cX12_term 18 = .ok (.iconst 0, 1) := by decide +kernel
theorem dX12_term_19 : decode cX12_term 19 = .ok (.putfield 279, 3) := by decide +kernel
theorem dX12_term_22 : decode cX12_term 22 = .ok (.aload_n 0, 1) := by decide +kernel
theorem dX12_term_23 : decode cX12_term 23 = .ok (.getfield 46, 3) := by decide +kernel
theorem dX12_term_26 : decode cX12_term 26 = .ok (.aload_n 0, 1) := by decide +kernel
theorem dX12_term_27 : decode cX12_term 27 = .ok (.getfield 211, 3) := by decide +kernel
theorem dX12_term_30 : decode cX12_term 30 = .ok (.aload_n 0, 1) := by decide +kernel
theorem dX12_term_31 : decode cX12_term 31 = .ok (.iconst 0, 1) := by decide +kernel
theorem dX12_term_32 : decode cX12_term 32 = .ok (.invokevirtual 286, 3) := by decide +kernel
theorem dX12_term_35 : decode cX12_term 35 = .ok (.bipush 114, 2) := by decide +kernel
theorem dX12_term_37 : decode cX12_term 37 = .ok (.if_icmp .ne 7, 3) := by decide +kernel
theorem dX12_term_40 : decode cX12_term 40 = .ok (.iconst 1, 1) := by decide +kernel
theorem dX12_term_41 : decode cX12_term 41 = .ok (.goto 4, 3) := by decide +kernel
theorem dX12_term_44 : decode cX12_term 44 = .ok (.iconst 0, 1) := by decide +kernel
theorem dX12_term_45 : decode cX12_term 45 = .ok (.bastore, 1) := by decide +kernel
theorem dX12_term_46 : decode cX12_term 46 = .ok (.aload_n 0, 1) := by decide +kernel
theorem dX12_term_47 : decode cX12_term 47 = .ok (.getfield 46, 3) := by decide +kernel
theorem dX12_term_50 : decode cX12_term 50 = .ok (.aload_n 0, 1) := by decide +kernel
theorem dX12_term_51 : decode cX12_term 51 = .ok (.getfield 211, 3) := by decide +kernel
theorem dX12_term_54 : decode cX12_term 54 = .ok (.baload, 1) := by decide +kernel
theorem dX12_term_55 : decode cX12_term 55 = .ok (.ifCond .eq 14, 3) := by decide +kernel
theorem dX12_term_58 : decode cX12_term 58 = .ok (.aload_n 0, 1) := by decide +kernel
theorem dX12_term_59 : decode cX12_term 59 = .ok (.aload_n 0, 1) := by decide +kernel
theorem dX12_term_60 : decode cX12_term 60 = .ok (.getfield 211, 3) := by decide +kernel
theorem dX12_term_63 : decode cX12_term 63 = .ok (.invokevirtual 298, 3) := by decide +kernel
theorem dX12_term_66 : decode cX12_term 66 = .ok (.goto 11, 3) := by decide +kernel
theorem dX12_term_69 : decode cX12_term 69 = .ok (.aload_n 0, 1) := by decide +kernel
theorem dX12_term_70 : decode cX12_term 70 = .ok (.aload_n 0, 1) := by decide +kernel
theorem dX12_term_71 : decode cX12_term 71 = .ok (.getfield 211, 3) := by decide +kernel
theorem dX12_term_74 : decode cX12_term 74 = .ok (.invokevirtual 301, 3) := by decide +kernel
theorem dX12_term_77 : decode cX12_term 77 = .ok (.aload_n 0, 1) := by decide +kernel
theorem dX12_term_78 : decode cX12_term 78 = .ok (.aload_n 0, 1) := by decide +kernel
theorem dX12_term_79 : decode cX12_term 79 = .ok (.getfield 279, 3) := by decide +kernel
theorem dX12_term_82 : decode cX12_term 82 = .ok (.ifCond .ne 14, 3) := by decide +kernel
theorem dX12_term_85 : decode cX12_term 85 = .ok (.aload_n 0, 1) := by decide +kernel
theorem dX12_term_86 : decode cX12_term 86 = .ok (.getfield 283, 3) := by decide +kernel
theorem dX12_term_89 : decode cX12_term 89 = .ok (.aload_n 0, 1) := by decide +kernel
theorem dX12_term_90 : decode cX12_term 90 = .ok (.getfield 273, 3) := by decide +kernel
theorem dX12_term_93 : decode cX12_term 93 = .ok (.if_icmp .eq 7, 3) := by decide +kernel
theorem dX12_term_96 : decode cX12_term 96 = .ok (.iconst 1, 1) := by decide +kernel
theorem dX12_term_97 : decode cX12_term 97 = .ok (.goto 4, 3) := by decide +kernel
theorem dX12_term_100 : decode cX12_term 100 = .ok (.iconst 0, 1) := by decide +kernel
theorem dX12_term_101 : decode cX12_term 101 = .ok (.putfield 279, 3) := by decide +kernel
theorem dX12_term_104 : decode cX12_term 104 = .ok (.aload_n 0, 1) := by decide +kernel
theorem dX12_term_105 : decode cX12_term 105 = .ok (.iconst 0, 1) := by decide +kernel
theorem dX12_term_106 : decode cX12_term 106 = .ok (.putfield 273, 3) := by decide +kernel
theorem dX12_term_109 : decode cX12_term 109 = .ok (.aload_n 0, 1) := by decide +kernel
theorem dX12_term_110 : decode cX12_term 110 = .ok (.getfield 279, 3) := by decide +kernel
theorem dX12_term_113 : decode cX12_term 113 = .ok (.ifCond .eq 11, 3) := by decide +kernel
theorem dX12_term_116 : decode cX12_term 116 = .ok (.bipush (-10), 2) := by decide +kernel
theorem dX12_term_118 : decode cX12_term 118 = .ok (.aload_n 0, 1) := by decide +kernel
theorem dX12_term_119 : decode cX12_term 119 = .ok (.getfield 283, 3) := by decide +kernel
theorem dX12_term_122 : decode cX12_term 122 = .ok (.isub, 1) := by decide +kernel
theorem dX12_term_123 : decode cX12_term 123 = .ok (.ireturn, 1) := by decide +kernel
theorem dX12_term_124 : decode cX12_term 124 = .ok (.aload_n 0, 1) := by decide +kernel
theorem dX12_term_125 : decode cX12_term 125 = .ok (.aload_n 0, 1) := by decide +kernel
theorem dX12_term_126 : decode cX12_term 126 = .ok (.getfield 211, 3) := by decide +kernel
theorem dX12_term_129 : decode cX12_term 129 = .ok (.invokevirtual 304, 3) := by decide +kernel
theorem dX12_term_132 : decode cX12_term 132 = .ok (.ifCond .ne 6, 3) := by decide +kernel
theorem dX12_term_135 : decode cX12_term 135 = .ok (.bipush (-2), 2) := by decide +kernel
theorem dX12_term_137 : decode cX12_term 137 = .ok (.ireturn, 1) := by decide +kernel
theorem dX12_term_138 : decode cX12_term 138 = .ok (.aload_n 0, 1) := by decide +kernel
theorem dX12_term_139 : decode cX12_term 139 = .ok (.dup, 1) := by decide +kernel
theorem dX12_term_140 : decode cX12_term 140 = .ok (.getfield 211, 3) := by decide +kernel
theorem dX12_term_143 : decode cX12_term 143 = .ok (.iconst 1, 1) := by decide +kernel
theorem dX12_term_144 : decode cX12_term 144 = .ok (.iadd, 1) := by decide +kernel
theorem dX12_term_145 : decode cX12_term 145 = .ok (.putfield 211, 3) := by decide +kernel
theorem dX12_term_148 : decode cX12_term 148 = .ok (.aload_n 0, 1) := by decide +kernel
theorem dX12_term_149 : decode cX12_term 149 = .ok (.getfield 211, 3) := by decide +kernel
theorem dX12_term_152 : decode cX12_term 152 = .ok (.iconst 1, 1) := by decide +kernel
theorem dX12_term_153 : decode cX12_term 153 = .ok (.isub, 1) := by decide +kernel
theorem dX12_term_154 : decode cX12_term 154 = .ok (.ireturn, 1) := by decide +kernel
abbrev M_X12_term : MI := (RX12, cX12_term, 1, (some .int), ({ frames := 4, cells := 0, slots := 0, locals := 92 } : Room), 0, 0, false)
def f_X12_term_b101 (N : Nat) (h : AH) (x0 : Nat) (s1 : Int32) (s2 : Nat) : Option (Int32 × AH) := (xpz h s2 13 70 s1).bind fun h23 => (xpi h23 x0 13 63 0).bind fun h24 => (xgi h24 x0 13 70).bind fun v25 => (if v25 = 0 then (xgi h24 x0 13 13).bind fun v27 => (f_X12_isGood h24 N x0 v27).bind fun v28 => (if v28 = 0 then some ((-2), h24) else (xgi h24 x0 13 13).bind fun v30 => (xpi h24 x0 13 13 (v30 + 1)).bind fun h31 => (xgi h31 x0 13 13).bind fun v32 => some ((v32 - 1), h31)) else (xgi h24 x0 13 69).bind fun v33 => some (((-10) - v33), h24))
def f_X12_term_b96 (N : Nat) (h : AH) (x0 : Nat) (s1 : Nat) : Option (Int32 × AH) := f_X12_term_b101 N h x0 1 s1
def f_X12_term_b77 (N : Nat) (h : AH) (x0 : Nat) : Option (Int32 × AH) := (xgi h x0 13 70).bind fun v18 => (if v18 = 0 then (xgi h x0 13 69).bind fun v20 => (xgi h x0 13 63).bind fun v21 => (if v20 = v21 then f_X12_term_b101 N h x0 0 x0 else f_X12_term_b96 N h x0 x0) else f_X12_term_b96 N h x0 x0)
def f_X12_term_b45 (N : Nat) (h : AH) (x0 : Nat) (s1 : Int32) (s2 : Int32) (s3 : Nat) : Option (Int32 × AH) := (xbs h s3 s2 s1).bind fun h9 => (xgr h9 x0 13 14).bind fun v10 => (xgi h9 x0 13 13).bind fun v11 => (xba h9 v10 v11).bind fun v12 => (if v12 = 0 then (xgi h9 x0 13 13).bind fun v14 => (f_X12_readsPay h9 N x0 v14).bind fun q15 => f_X12_term_b77 N q15 x0 else (xgi h9 x0 13 13).bind fun v16 => (f_X12_readsRate h9 N x0 v16).bind fun q17 => f_X12_term_b77 N q17 x0)
def f_X12_term (h0 : AH) (N : Nat) (p0 : Nat) : Option (Int32 × AH) := if kd h0 p0 = 13 + 1 then (xgi h0 p0 13 13).bind fun v1 => (if v1 = 8 then some ((-4), h0) else (xpi h0 p0 13 69 0).bind fun h3 => (xpz h3 p0 13 70 0).bind fun h4 => (xgr h4 p0 13 14).bind fun v5 => (xgi h4 p0 13 13).bind fun v6 => (f_X12_byteAt h4 p0 0).bind fun v7 => (if v7 = 114 then f_X12_term_b45 N h4 p0 1 v6 v5 else f_X12_term_b45 N h4 p0 0 v6 v5)) else none
theorem g_X12_term {h0 : AH} {N : Nat} {p0 : Nat} {x : (Int32 × AH)} (e : f_X12_term h0 N p0 = some x) : kd h0 p0 = 13 + 1 := by
  unfold f_X12_term at e
  by_cases hk : kd h0 p0 = 13 + 1
  · exact hk
  · rw [if_neg hk] at e
    cases e
theorem km_X12_term : KM yX12_term M_X12_term 0 := ⟨in_tb 1536 (by decide +kernel) rfl, in_tb 9 (by decide +kernel) rfl, by decide +kernel, rfl, rfl⟩
theorem hm_X12_term : M_X12_term.2.2.2.2.2.1 = 0 ∧ M_X12_term.2.2.2.2.2.2.1 = 0 := ⟨rfl, rfl⟩
section
variable {l : Launch} {g : GG}
set_option maxRecDepth 100000 in
set_option maxHeartbeats 4000000 in
theorem t_X12_term_b101 (h0 : AH) (N : Nat) (h : AH) (x0 : Nat) (s1 : Int32) (s2 : Nat) : AO l g M_X12_term false h0 101 [(0, .ref x0)] [.int s1, .ref s2] h 0 0 rSi (f_X12_term_b101 N  h x0 s1 s2) := by
  unfold f_X12_term_b101
  refine a_putz kc13 70 dX12_term_101 (by decide) rfl w_fieldLink_RainCoverModel_279 rfl rfl (fun h23 => ?_)
  refine a_aload_n dX12_term_104 rfl 0 rfl ?_
  refine a_iconst (v := 0) dX12_term_105 (by decide) ?_
  refine a_puti kc13 63 dX12_term_106 (by decide) rfl w_fieldLink_RainCoverModel_273 rfl rfl (fun h24 => ?_)
  refine a_aload_n dX12_term_109 rfl 0 rfl ?_
  refine a_geti kc13 70 dX12_term_110 (by decide) rfl w_fieldLink_RainCoverModel_279 (fun v25 => ?_)
  refine a_if_eq 124 dX12_term_113 (by decide) (fun c26 => ?_) (fun c26 => ?_)
  · refine a_aload_n dX12_term_124 rfl 0 rfl ?_
    refine a_aload_n dX12_term_125 rfl 0 rfl ?_
    refine a_geti kc13 13 dX12_term_126 (by decide) rfl w_fieldLink_RainCoverModel_211 (fun v27 => ?_)
    refine a_cV_Pi (r := x0) (ci := 13) (as := [.int v27]) (st := []) dX12_term_129 (c_X12_isGood l g h24 N x0 v27) rfl km_X12_isGood (hm_X12_isGood) rfl (by decide) rfl (fun _ ee => g_X12_isGood ee) w_methodLink_RainCoverModel_304 w_instanceMethod_RainCoverModel_isGood__I_Z w_selects_RainCoverModel_RainCoverModel_isGood__I_Z_RainCoverModel_isGood__I_Z ⟨⟨by decide, by decide⟩, ⟨by decide, by decide⟩⟩ (Nat.le_of_ble_eq_true rfl) (fun v28 => ?_)
    refine a_if_ne 138 dX12_term_132 (by decide) (fun c29 => ?_) (fun c29 => ?_)
    · refine a_bipush (v := (-2)) dX12_term_135 (by decide) ?_
      exact a_iret dX12_term_137 rfl rfl (by decide) (by decide)
    · refine a_aload_n dX12_term_138 rfl 0 rfl ?_
      refine a_dup dX12_term_139 rfl ?_
      refine a_geti kc13 13 dX12_term_140 (by decide) rfl w_fieldLink_RainCoverModel_211 (fun v30 => ?_)
      refine a_iconst (v := 1) dX12_term_143 (by decide) ?_
      refine a_iadd dX12_term_144 ?_
      refine a_puti kc13 13 dX12_term_145 (by decide) rfl w_fieldLink_RainCoverModel_211 rfl rfl (fun h31 => ?_)
      refine a_aload_n dX12_term_148 rfl 0 rfl ?_
      refine a_geti kc13 13 dX12_term_149 (by decide) rfl w_fieldLink_RainCoverModel_211 (fun v32 => ?_)
      refine a_iconst (v := 1) dX12_term_152 (by decide) ?_
      refine a_isub dX12_term_153 ?_
      exact a_iret dX12_term_154 rfl rfl (by decide) (by decide)
  · refine a_bipush (v := (-10)) dX12_term_116 (by decide) ?_
    refine a_aload_n dX12_term_118 rfl 0 rfl ?_
    refine a_geti kc13 69 dX12_term_119 (by decide) rfl w_fieldLink_RainCoverModel_283 (fun v33 => ?_)
    refine a_isub dX12_term_122 ?_
    exact a_iret dX12_term_123 rfl rfl (by decide) (by decide)
set_option maxRecDepth 100000 in
set_option maxHeartbeats 4000000 in
theorem t_X12_term_b96 (h0 : AH) (N : Nat) (h : AH) (x0 : Nat) (s1 : Nat) : AO l g M_X12_term false h0 96 [(0, .ref x0)] [.ref s1] h 0 0 rSi (f_X12_term_b96 N  h x0 s1) := by
  unfold f_X12_term_b96
  refine a_iconst (v := 1) dX12_term_96 (by decide) ?_
  refine a_goto 101 dX12_term_97 (by decide) ?_
  exact t_X12_term_b101 h0 N h x0 1 s1
set_option maxRecDepth 100000 in
set_option maxHeartbeats 4000000 in
theorem t_X12_term_b77 (h0 : AH) (N : Nat) (h : AH) (x0 : Nat) : AO l g M_X12_term false h0 77 [(0, .ref x0)] [] h 0 0 rSi (f_X12_term_b77 N  h x0) := by
  unfold f_X12_term_b77
  refine a_aload_n dX12_term_77 rfl 0 rfl ?_
  refine a_aload_n dX12_term_78 rfl 0 rfl ?_
  refine a_geti kc13 70 dX12_term_79 (by decide) rfl w_fieldLink_RainCoverModel_279 (fun v18 => ?_)
  refine a_if_ne 96 dX12_term_82 (by decide) (fun c19 => ?_) (fun c19 => ?_)
  · refine a_aload_n dX12_term_85 rfl 0 rfl ?_
    refine a_geti kc13 69 dX12_term_86 (by decide) rfl w_fieldLink_RainCoverModel_283 (fun v20 => ?_)
    refine a_aload_n dX12_term_89 rfl 0 rfl ?_
    refine a_geti kc13 63 dX12_term_90 (by decide) rfl w_fieldLink_RainCoverModel_273 (fun v21 => ?_)
    refine a_icmp_eq 100 dX12_term_93 (by decide) (fun c22 => ?_) (fun c22 => ?_)
    · refine a_iconst (v := 0) dX12_term_100 (by decide) ?_
      exact t_X12_term_b101 h0 N h x0 0 x0
    · exact t_X12_term_b96 h0 N h x0 x0
  · exact t_X12_term_b96 h0 N h x0 x0
set_option maxRecDepth 100000 in
set_option maxHeartbeats 4000000 in
theorem t_X12_term_b45 (h0 : AH) (N : Nat) (h : AH) (x0 : Nat) (s1 : Int32) (s2 : Int32) (s3 : Nat) : AO l g M_X12_term false h0 45 [(0, .ref x0)] [.int s1, .int s2, .ref s3] h 0 0 rSi (f_X12_term_b45 N  h x0 s1 s2 s3) := by
  unfold f_X12_term_b45
  refine a_bast dX12_term_45 (fun h9 => ?_)
  refine a_aload_n dX12_term_46 rfl 0 rfl ?_
  refine a_getr kc13 14 dX12_term_47 (by decide) rfl w_fieldLink_RainCoverModel_46 (fun v10 => ?_)
  refine a_aload_n dX12_term_50 rfl 0 rfl ?_
  refine a_geti kc13 13 dX12_term_51 (by decide) rfl w_fieldLink_RainCoverModel_211 (fun v11 => ?_)
  refine a_bald dX12_term_54 (fun v12 => ?_)
  refine a_if_eq 69 dX12_term_55 (by decide) (fun c13 => ?_) (fun c13 => ?_)
  · refine a_aload_n dX12_term_69 rfl 0 rfl ?_
    refine a_aload_n dX12_term_70 rfl 0 rfl ?_
    refine a_geti kc13 13 dX12_term_71 (by decide) rfl w_fieldLink_RainCoverModel_211 (fun v14 => ?_)
    refine a_cV_Sv (r := x0) (ci := 13) (as := [.int v14]) (st := []) dX12_term_74 (c_X12_readsPay l g h9 N x0 v14) rfl km_X12_readsPay (hm_X12_readsPay) rfl (by decide) rfl (fun _ ee => g_X12_readsPay ee) w_methodLink_RainCoverModel_301 w_instanceMethod_RainCoverModel_readsPay__I_V w_selects_RainCoverModel_RainCoverModel_readsPay__I_V_RainCoverModel_readsPay__I_V ⟨⟨by decide, by decide⟩, ⟨by decide, by decide⟩⟩ (Nat.le_of_ble_eq_true rfl) (fun q15 => ?_)
    exact t_X12_term_b77 h0 N q15 x0
  · refine a_aload_n dX12_term_58 rfl 0 rfl ?_
    refine a_aload_n dX12_term_59 rfl 0 rfl ?_
    refine a_geti kc13 13 dX12_term_60 (by decide) rfl w_fieldLink_RainCoverModel_211 (fun v16 => ?_)
    refine a_cV_Sv (r := x0) (ci := 13) (as := [.int v16]) (st := []) dX12_term_63 (c_X12_readsRate l g h9 N x0 v16) rfl km_X12_readsRate (hm_X12_readsRate) rfl (by decide) rfl (fun _ ee => g_X12_readsRate ee) w_methodLink_RainCoverModel_298 w_instanceMethod_RainCoverModel_readsRate__I_V w_selects_RainCoverModel_RainCoverModel_readsRate__I_V_RainCoverModel_readsRate__I_V ⟨⟨by decide, by decide⟩, ⟨by decide, by decide⟩⟩ (Nat.le_of_ble_eq_true rfl) (fun q17 => ?_)
    refine a_goto 77 dX12_term_66 (by decide) ?_
    exact t_X12_term_b77 h0 N q17 x0
end
set_option maxRecDepth 100000 in
set_option maxHeartbeats 4000000 in
theorem c_X12_term (l : Launch) (g : GG) (h0 : AH) (N : Nat) (p0 : Nat) : CN l g yX12_term M_X12_term false [.ref p0] h0 rSi (f_X12_term h0 N p0) := by
  refine CN.of (by decide) rfl (fun hh => by first | rfl | cases hh) (Nat.le_of_ble_eq_true rfl) ?_
  unfold f_X12_term
  refine a_gd (fun hkd => ?_)
  refine a_aload_n dX12_term_0 rfl 0 rfl ?_
  refine a_geti kc13 13 dX12_term_1 (by decide) rfl w_fieldLink_RainCoverModel_211 (fun v1 => ?_)
  refine a_bipush (v := 8) dX12_term_4 (by decide) ?_
  refine a_icmp_ne 12 dX12_term_6 (by decide) (fun c2 => ?_) (fun c2 => ?_)
  · refine a_bipush (v := (-4)) dX12_term_9 (by decide) ?_
    exact a_iret dX12_term_11 rfl rfl (by decide) (by decide)
  · refine a_aload_n dX12_term_12 rfl 0 rfl ?_
    refine a_iconst (v := 0) dX12_term_13 (by decide) ?_
    refine a_puti kc13 69 dX12_term_14 (by decide) rfl w_fieldLink_RainCoverModel_283 rfl rfl (fun h3 => ?_)
    refine a_aload_n dX12_term_17 rfl 0 rfl ?_
    refine a_iconst (v := 0) dX12_term_18 (by decide) ?_
    refine a_putz kc13 70 dX12_term_19 (by decide) rfl w_fieldLink_RainCoverModel_279 rfl rfl (fun h4 => ?_)
    refine a_aload_n dX12_term_22 rfl 0 rfl ?_
    refine a_getr kc13 14 dX12_term_23 (by decide) rfl w_fieldLink_RainCoverModel_46 (fun v5 => ?_)
    refine a_aload_n dX12_term_26 rfl 0 rfl ?_
    refine a_geti kc13 13 dX12_term_27 (by decide) rfl w_fieldLink_RainCoverModel_211 (fun v6 => ?_)
    refine a_aload_n dX12_term_30 rfl 0 rfl ?_
    refine a_iconst (v := 0) dX12_term_31 (by decide) ?_
    refine a_cV_Pi (r := p0) (ci := 13) (as := [.int 0]) (st := [.int v6, .ref v5]) dX12_term_32 (c_X12_byteAt l g h4 p0 0) rfl km_X12_byteAt (hm_X12_byteAt) rfl (by decide) rfl (fun _ ee => g_X12_byteAt ee) w_methodLink_RainCoverModel_286 w_instanceMethod_RainCoverModel_byteAt__I_I w_selects_RainCoverModel_RainCoverModel_byteAt__I_I_RainCoverModel_byteAt__I_I ⟨⟨by decide, by decide⟩, ⟨by decide, by decide⟩⟩ (Nat.le_of_ble_eq_true rfl) (fun v7 => ?_)
    refine a_bipush (v := 114) dX12_term_35 (by decide) ?_
    refine a_icmp_ne 44 dX12_term_37 (by decide) (fun c8 => ?_) (fun c8 => ?_)
    · refine a_iconst (v := 1) dX12_term_40 (by decide) ?_
      refine a_goto 45 dX12_term_41 (by decide) ?_
      exact t_X12_term_b45 h0 N h4 p0 1 v6 v5
    · refine a_iconst (v := 0) dX12_term_44 (by decide) ?_
      exact t_X12_term_b45 h0 N h4 p0 0 v6 v5
theorem dX12_seasonOf_0 : decode cX12_seasonOf 0 = .ok (.iload_n 2, 1) := by decide +kernel
theorem dX12_seasonOf_1 : decode cX12_seasonOf 1 = .ok (.aload_n 0, 1) := by decide +kernel
theorem dX12_seasonOf_2 : decode cX12_seasonOf 2 = .ok (.getfield 188, 3) := by decide +kernel
theorem dX12_seasonOf_5 : decode cX12_seasonOf 5 = .ok (.if_icmp .lt 10, 3) := by decide +kernel
theorem dX12_seasonOf_8 : decode cX12_seasonOf 8 = .ok (.aload_n 0, 1) := by decide +kernel
theorem dX12_seasonOf_9 : decode cX12_seasonOf 9 = .ok (.getfield 307, 3) := by decide +kernel
theorem dX12_seasonOf_12 : decode cX12_seasonOf 12 = .ok (.goto 4, 3) := by decide +kernel
theorem dX12_seasonOf_15 : decode cX12_seasonOf 15 = .ok (.iload_n 1, 1) := by decide +kernel
theorem dX12_seasonOf_16 : decode cX12_seasonOf 16 = .ok (.ireturn, 1) := by decide +kernel
abbrev M_X12_seasonOf : MI := (RX12, cX12_seasonOf, 3, (some .int), ({ frames := 0, cells := 0, slots := 0, locals := 0 } : Room), 0, 0, false)
def f_X12_seasonOf (h : AH) (p0 : Nat) (p1 : Int32) (p2 : Int32) : Option Int32 := if kd h p0 = 13 + 1 then (xgi h p0 13 73).bind fun v1 => (if p2 < v1 then some p1 else (xgi h p0 13 72).bind fun v3 => some v3) else none
theorem g_X12_seasonOf {h : AH} {p0 : Nat} {p1 : Int32} {p2 : Int32} {x : Int32} (e : f_X12_seasonOf h p0 p1 p2 = some x) : kd h p0 = 13 + 1 := by
  unfold f_X12_seasonOf at e
  by_cases hk : kd h p0 = 13 + 1
  · exact hk
  · rw [if_neg hk] at e
    cases e
theorem km_X12_seasonOf : KM yX12_seasonOf M_X12_seasonOf 2 := ⟨in_tb 1588 (by decide +kernel) rfl, in_tb 9 (by decide +kernel) rfl, by decide +kernel, rfl, rfl⟩
theorem hm_X12_seasonOf : M_X12_seasonOf.2.2.2.2.2.1 = 0 ∧ M_X12_seasonOf.2.2.2.2.2.2.1 = 0 := ⟨rfl, rfl⟩
section
variable {l : Launch} {g : GG}
end
set_option maxRecDepth 100000 in
set_option maxHeartbeats 4000000 in
theorem c_X12_seasonOf (l : Launch) (g : GG) (h : AH) (p0 : Nat) (p1 : Int32) (p2 : Int32) : CN l g yX12_seasonOf M_X12_seasonOf false [.ref p0, .int p1, .int p2] h ((rPi h)) (f_X12_seasonOf h p0 p1 p2) := by
  refine CN.of (by decide) rfl (fun hh => by first | rfl | cases hh) (Nat.le_of_ble_eq_true rfl) ?_
  unfold f_X12_seasonOf
  refine a_gd (fun hkd => ?_)
  refine a_iload_n dX12_seasonOf_0 rfl 2 rfl ?_
  refine a_aload_n dX12_seasonOf_1 rfl 0 rfl ?_
  refine a_geti kc13 73 dX12_seasonOf_2 (by decide) rfl w_fieldLink_RainCoverModel_188 (fun v1 => ?_)
  refine a_icmp_lt 15 dX12_seasonOf_5 (by decide) (fun c2 => ?_) (fun c2 => ?_)
  · refine a_iload_n dX12_seasonOf_15 rfl 1 rfl ?_
    exact a_iret dX12_seasonOf_16 rfl rfl (by decide) (by decide)
  · refine a_aload_n dX12_seasonOf_8 rfl 0 rfl ?_
    refine a_geti kc13 72 dX12_seasonOf_9 (by decide) rfl w_fieldLink_RainCoverModel_307 (fun v3 => ?_)
    refine a_goto 16 dX12_seasonOf_12 (by decide) ?_
    exact a_iret dX12_seasonOf_16 rfl rfl (by decide) (by decide)
theorem dX12_sumOf_0 : decode cX12_sumOf 0 = .ok (.iconst 0, 1) := by decide +kernel
theorem dX12_sumOf_1 : decode cX12_sumOf 1 = .ok (.istore 6, 2) := by decide +kernel
theorem dX12_sumOf_3 : decode cX12_sumOf 3 = .ok (.aload_n 0, 1) := by decide +kernel
theorem dX12_sumOf_4 : decode cX12_sumOf 4 = .ok (.getfield 67, 3) := by decide +kernel
theorem dX12_sumOf_7 : decode cX12_sumOf 7 = .ok (.iload_n 2, 1) := by decide +kernel
theorem dX12_sumOf_8 : decode cX12_sumOf 8 = .ok (.iaload, 1) := by decide +kernel
theorem dX12_sumOf_9 : decode cX12_sumOf 9 = .ok (.iload 5, 2) := by decide +kernel
theorem dX12_sumOf_11 : decode cX12_sumOf 11 = .ok (.iadd, 1) := by decide +kernel
theorem dX12_sumOf_12 : decode cX12_sumOf 12 = .ok (.istore 7, 2) := by decide +kernel
theorem dX12_sumOf_14 : decode cX12_sumOf 14 = .ok (.iload 7, 2) := by decide +kernel
theorem dX12_sumOf_16 : decode cX12_sumOf 16 = .ok (.aload_n 0, 1) := by decide +kernel
theorem dX12_sumOf_17 : decode cX12_sumOf 17 = .ok (.getfield 70, 3) := by decide +kernel
theorem dX12_sumOf_20 : decode cX12_sumOf 20 = .ok (.iload_n 2, 1) := by decide +kernel
theorem dX12_sumOf_21 : decode cX12_sumOf 21 = .ok (.iaload, 1) := by decide +kernel
theorem dX12_sumOf_22 : decode cX12_sumOf 22 = .ok (.iload 5, 2) := by decide +kernel
theorem dX12_sumOf_24 : decode cX12_sumOf 24 = .ok (.iadd, 1) := by decide +kernel
theorem dX12_sumOf_25 : decode cX12_sumOf 25 = .ok (.if_icmp .gt 37, 3) := by decide +kernel
theorem dX12_sumOf_28 : decode cX12_sumOf 28 = .ok (.iload 7, 2) := by decide +kernel
theorem dX12_sumOf_30 : decode cX12_sumOf 30 = .ok (.bipush 12, 2) := by decide +kernel
theorem dX12_sumOf_32 : decode cX12_sumOf 32 = .ok (.if_icmp .ge 30, 3) := by decide +kernel
theorem dX12_sumOf_35 : decode cX12_sumOf 35 = .ok (.iload 6, 2) := by decide +kernel
theorem dX12_sumOf_37 : decode cX12_sumOf 37 = .ok (.aload_n 0, 1) := by decide +kernel
theorem dX12_sumOf_38 : decode cX12_sumOf 38 = .ok (.iload_n 1, 1) := by decide +kernel
theorem dX12_sumOf_39 : decode cX12_sumOf 39 = .ok (.iload_n 3, 1) := by decide +kernel
theorem dX12_sumOf_40 : decode cX12_sumOf 40 = .ok (.aload_n 0, 1) := by decide +kernel
theorem dX12_sumOf_41 : decode cX12_sumOf 41 = .ok (.iload 4, 2) := by decide +kernel
theorem dX12_sumOf_43 : decode cX12_sumOf 43 = .ok (.iload 7, 2) := by decide +kernel
theorem dX12_sumOf_45 : decode cX12_sumOf 45 = .ok (.invokevirtual 310, 3) := by decide +kernel
theorem dX12_sumOf_48 : decode cX12_sumOf 48 = .ok (.iload 7, 2) := by decide +kernel
theorem dX12_sumOf_50 : decode cX12_sumOf 50 = .ok (.invokevirtual 267, 3) := by decide +kernel
theorem dX12_sumOf_53 : decode cX12_sumOf 53 = .ok (.iadd, 1) := by decide +kernel
theorem dX12_sumOf_54 : decode cX12_sumOf 54 = .ok (.istore 6, 2) := by decide +kernel
theorem dX12_sumOf_56 : decode cX12_sumOf 56 = .ok (.iinc 7 1, 3) := by decide +kernel
theorem dX12_sumOf_59 : decode cX12_sumOf 59 = .ok (.goto (-45), 3) := by decide +kernel
theorem dX12_sumOf_62 : decode cX12_sumOf 62 = .ok (.iload 6, 2) := by decide +kernel
theorem dX12_sumOf_64 : decode cX12_sumOf 64 = .ok (.ireturn, 1) := by decide +kernel
abbrev M_X12_sumOf : MI := (RX12, cX12_sumOf, 8, (some .int), ({ frames := 4, cells := 0, slots := 0, locals := 95 } : Room), 0, 0, false)
def f_X12_sumOf_b14_body (h : AH) (N : Nat) (K14 : Nat → Int32 → Int32 → Int32 → Int32 → Int32 → Int32 → Int32 → Option Int32) (x0 : Nat) (x1 : Int32) (x2 : Int32) (x3 : Int32) (x4 : Int32) (x5 : Int32) (x6 : Int32) (x7 : Int32) : Option Int32 := (xgr h x0 13 22).bind fun v3 => (xia h v3 x2).bind fun v4 => (if (v4 + x5) < x7 then some x6 else (if 12 ≤ x7 then some x6 else (f_X12_seasonOf h x0 x4 x7).bind fun v7 => (f_X12_filledOf h N x0 x1 x3 v7 x7).bind fun v8 => K14 x0 x1 x2 x3 x4 x5 (x6 + v8) (x7 + 1)))
def f_X12_sumOf_b14 (h : AH) (N : Nat) : Nat → Nat → Int32 → Int32 → Int32 → Int32 → Int32 → Int32 → Int32 → Option Int32
  | 0, _, _, _, _, _, _, _, _ => none
  | n + 1, x0, x1, x2, x3, x4, x5, x6, x7 => f_X12_sumOf_b14_body h N  (f_X12_sumOf_b14 h N  n) x0 x1 x2 x3 x4 x5 x6 x7
def f_X12_sumOf (h : AH) (N : Nat) (p0 : Nat) (p1 : Int32) (p2 : Int32) (p3 : Int32) (p4 : Int32) (p5 : Int32) : Option Int32 := if kd h p0 = 13 + 1 then (xgr h p0 13 21).bind fun v1 => (xia h v1 p2).bind fun v2 => f_X12_sumOf_b14 h N N p0 p1 p2 p3 p4 p5 0 (v2 + p5) else none
theorem g_X12_sumOf {h : AH} {N : Nat} {p0 : Nat} {p1 : Int32} {p2 : Int32} {p3 : Int32} {p4 : Int32} {p5 : Int32} {x : Int32} (e : f_X12_sumOf h N p0 p1 p2 p3 p4 p5 = some x) : kd h p0 = 13 + 1 := by
  unfold f_X12_sumOf at e
  by_cases hk : kd h p0 = 13 + 1
  · exact hk
  · rw [if_neg hk] at e
    cases e
theorem km_X12_sumOf : KM yX12_sumOf M_X12_sumOf 5 := ⟨in_tb 1584 (by decide +kernel) rfl, in_tb 9 (by decide +kernel) rfl, by decide +kernel, rfl, rfl⟩
theorem hm_X12_sumOf : M_X12_sumOf.2.2.2.2.2.1 = 0 ∧ M_X12_sumOf.2.2.2.2.2.2.1 = 0 := ⟨rfl, rfl⟩
section
variable {l : Launch} {g : GG}
set_option maxRecDepth 100000 in
set_option maxHeartbeats 4000000 in
theorem t_X12_sumOf_b14_body (h : AH) (N : Nat) (K14 : Nat → Int32 → Int32 → Int32 → Int32 → Int32 → Int32 → Int32 → Option Int32) (hK14 : ∀ (z0 : Nat) (z1 : Int32) (z2 : Int32) (z3 : Int32) (z4 : Int32) (z5 : Int32) (z6 : Int32) (z7 : Int32), AO l g M_X12_sumOf false h 14 [(0, .ref z0), (1, .int z1), (2, .int z2), (3, .int z3), (4, .int z4), (5, .int z5), (6, .int z6), (7, .int z7)] [] h 0 0 (rPi h) (K14 z0 z1 z2 z3 z4 z5 z6 z7)) (x0 : Nat) (x1 : Int32) (x2 : Int32) (x3 : Int32) (x4 : Int32) (x5 : Int32) (x6 : Int32) (x7 : Int32) : AO l g M_X12_sumOf false h 14 [(0, .ref x0), (1, .int x1), (2, .int x2), (3, .int x3), (4, .int x4), (5, .int x5), (6, .int x6), (7, .int x7)] [] h 0 0 (rPi h) (f_X12_sumOf_b14_body h N K14 x0 x1 x2 x3 x4 x5 x6 x7) := by
  unfold f_X12_sumOf_b14_body
  refine a_iload dX12_sumOf_14 7 rfl ?_
  refine a_aload_n dX12_sumOf_16 rfl 0 rfl ?_
  refine a_getr kc13 22 dX12_sumOf_17 (by decide) rfl w_fieldLink_RainCoverModel_70 (fun v3 => ?_)
  refine a_iload_n dX12_sumOf_20 rfl 2 rfl ?_
  refine a_iald dX12_sumOf_21 (fun v4 => ?_)
  refine a_iload dX12_sumOf_22 5 rfl ?_
  refine a_iadd dX12_sumOf_24 ?_
  refine a_icmp_gt 62 dX12_sumOf_25 (by decide) (fun c5 => ?_) (fun c5 => ?_)
  · refine a_iload dX12_sumOf_62 6 rfl ?_
    exact a_iret dX12_sumOf_64 rfl rfl (by decide) (by decide)
  · refine a_iload dX12_sumOf_28 7 rfl ?_
    refine a_bipush (v := 12) dX12_sumOf_30 (by decide) ?_
    refine a_icmp_ge 62 dX12_sumOf_32 (by decide) (fun c6 => ?_) (fun c6 => ?_)
    · refine a_iload dX12_sumOf_62 6 rfl ?_
      exact a_iret dX12_sumOf_64 rfl rfl (by decide) (by decide)
    · refine a_iload dX12_sumOf_35 6 rfl ?_
      refine a_aload_n dX12_sumOf_37 rfl 0 rfl ?_
      refine a_iload_n dX12_sumOf_38 rfl 1 rfl ?_
      refine a_iload_n dX12_sumOf_39 rfl 3 rfl ?_
      refine a_aload_n dX12_sumOf_40 rfl 0 rfl ?_
      refine a_iload dX12_sumOf_41 4 rfl ?_
      refine a_iload dX12_sumOf_43 7 rfl ?_
      refine a_cV_Pi (r := x0) (ci := 13) (as := [.int x4, .int x7]) (st := [.int x3, .int x1, .ref x0, .int x6]) dX12_sumOf_45 (c_X12_seasonOf l g h x0 x4 x7) rfl km_X12_seasonOf (hm_X12_seasonOf) rfl (by decide) rfl (fun _ ee => g_X12_seasonOf ee) w_methodLink_RainCoverModel_310 w_instanceMethod_RainCoverModel_seasonOf__II_I w_selects_RainCoverModel_RainCoverModel_seasonOf__II_I_RainCoverModel_seasonOf__II_I ⟨⟨by decide, by decide⟩, ⟨by decide, by decide⟩⟩ (Nat.le_of_ble_eq_true rfl) (fun v7 => ?_)
      refine a_iload dX12_sumOf_48 7 rfl ?_
      refine a_cV_Pi (r := x0) (ci := 13) (as := [.int x1, .int x3, .int v7, .int x7]) (st := [.int x6]) dX12_sumOf_50 (c_X12_filledOf l g h N x0 x1 x3 v7 x7) rfl km_X12_filledOf (hm_X12_filledOf) rfl (by decide) rfl (fun _ ee => g_X12_filledOf ee) w_methodLink_RainCoverModel_267 w_instanceMethod_RainCoverModel_filledOf__IIII_I w_selects_RainCoverModel_RainCoverModel_filledOf__IIII_I_RainCoverModel_filledOf__IIII_I ⟨⟨by decide, by decide⟩, ⟨by decide, by decide⟩⟩ (Nat.le_of_ble_eq_true rfl) (fun v8 => ?_)
      refine a_iadd dX12_sumOf_53 ?_
      refine a_istore (lc2 := [(6, .int (x6 + v8)), (0, .ref x0), (1, .int x1), (2, .int x2), (3, .int x3), (4, .int x4), (5, .int x5), (7, .int x7)]) dX12_sumOf_54 (by decide) rfl ?_
      refine a_iinc (q := 7) (v := (x7 + 1)) (lc2 := [(7, .int (x7 + 1)), (6, .int (x6 + v8)), (0, .ref x0), (1, .int x1), (2, .int x2), (3, .int x3), (4, .int x4), (5, .int x5)]) dX12_sumOf_56 rfl rfl (by decide) rfl ?_
      refine a_goto 14 dX12_sumOf_59 (by decide) ?_
      refine a_pick (lc2 := [(0, .ref x0), (1, .int x1), (2, .int x2), (3, .int x3), (4, .int x4), (5, .int x5), (6, .int (x6 + v8)), (7, .int (x7 + 1))]) [2, 3, 4, 5, 6, 7, 1, 0] rfl ?_
      exact hK14 x0 x1 x2 x3 x4 x5 (x6 + v8) (x7 + 1)
set_option maxRecDepth 100000 in
set_option maxHeartbeats 4000000 in
theorem t_X12_sumOf_b14 (h : AH) (N : Nat) : ∀ (n : Nat) (x0 : Nat) (x1 : Int32) (x2 : Int32) (x3 : Int32) (x4 : Int32) (x5 : Int32) (x6 : Int32) (x7 : Int32) , AO l g M_X12_sumOf false h 14 [(0, .ref x0), (1, .int x1), (2, .int x2), (3, .int x3), (4, .int x4), (5, .int x5), (6, .int x6), (7, .int x7)] [] h 0 0 (rPi h) (f_X12_sumOf_b14 h N  n x0 x1 x2 x3 x4 x5 x6 x7) := by
  intro n
  induction n with
  | zero => intro x0 x1 x2 x3 x4 x5 x6 x7; exact a_eq rfl a_none
  | succ n ih => intro x0 x1 x2 x3 x4 x5 x6 x7; exact a_eq rfl (t_X12_sumOf_b14_body h N  (f_X12_sumOf_b14 h N  n) ih x0 x1 x2 x3 x4 x5 x6 x7)
end
set_option maxRecDepth 100000 in
set_option maxHeartbeats 4000000 in
theorem c_X12_sumOf (l : Launch) (g : GG) (h : AH) (N : Nat) (p0 : Nat) (p1 : Int32) (p2 : Int32) (p3 : Int32) (p4 : Int32) (p5 : Int32) : CN l g yX12_sumOf M_X12_sumOf false [.ref p0, .int p1, .int p2, .int p3, .int p4, .int p5] h ((rPi h)) (f_X12_sumOf h N p0 p1 p2 p3 p4 p5) := by
  refine CN.of (by decide) rfl (fun hh => by first | rfl | cases hh) (Nat.le_of_ble_eq_true rfl) ?_
  unfold f_X12_sumOf
  refine a_gd (fun hkd => ?_)
  refine a_iconst (v := 0) dX12_sumOf_0 (by decide) ?_
  refine a_istore (lc2 := [(6, .int 0), (0, .ref p0), (1, .int p1), (2, .int p2), (3, .int p3), (4, .int p4), (5, .int p5)]) dX12_sumOf_1 (by decide) rfl ?_
  refine a_aload_n dX12_sumOf_3 rfl 1 rfl ?_
  refine a_getr kc13 21 dX12_sumOf_4 (by decide) rfl w_fieldLink_RainCoverModel_67 (fun v1 => ?_)
  refine a_iload_n dX12_sumOf_7 rfl 3 rfl ?_
  refine a_iald dX12_sumOf_8 (fun v2 => ?_)
  refine a_iload dX12_sumOf_9 6 rfl ?_
  refine a_iadd dX12_sumOf_11 ?_
  refine a_istore (lc2 := [(7, .int (v2 + p5)), (6, .int 0), (0, .ref p0), (1, .int p1), (2, .int p2), (3, .int p3), (4, .int p4), (5, .int p5)]) dX12_sumOf_12 (by decide) rfl ?_
  refine a_pick (lc2 := [(0, .ref p0), (1, .int p1), (2, .int p2), (3, .int p3), (4, .int p4), (5, .int p5), (6, .int 0), (7, .int (v2 + p5))]) [2, 3, 4, 5, 6, 7, 1, 0] rfl ?_
  exact t_X12_sumOf_b14 h N N p0 p1 p2 p3 p4 p5 0 (v2 + p5)
theorem dX12_dryOf_0 : decode cX12_dryOf 0 = .ok (.iconst 0, 1) := by decide +kernel
theorem dX12_dryOf_1 : decode cX12_dryOf 1 = .ok (.istore 7, 2) := by decide +kernel
theorem dX12_dryOf_3 : decode cX12_dryOf 3 = .ok (.iconst 0, 1) := by decide +kernel
theorem dX12_dryOf_4 : decode cX12_dryOf 4 = .ok (.istore 8, 2) := by decide +kernel
theorem dX12_dryOf_6 : decode cX12_dryOf 6 = .ok (.aload_n 0, 1) := by decide +kernel
theorem dX12_dryOf_7 : decode cX12_dryOf 7 = .ok (.getfield 67, 3) := by decide +kernel
theorem dX12_dryOf_10 : decode cX12_dryOf 10 = .ok (.iload_n 2, 1) := by decide +kernel
theorem dX12_dryOf_11 : decode cX12_dryOf 11 = .ok (.iaload, 1) := by decide +kernel
theorem dX12_dryOf_12 : decode cX12_dryOf 12 = .ok (.iload 5, 2) := by decide +kernel
theorem dX12_dryOf_14 : decode cX12_dryOf 14 = .ok (.iadd, 1) := by decide +kernel
theorem dX12_dryOf_15 : decode cX12_dryOf 15 = .ok (.istore 9, 2) := by decide +kernel
theorem dX12_dryOf_17 : decode cX12_dryOf 17 = .ok (.iload 9, 2) := by decide +kernel
theorem dX12_dryOf_19 : decode cX12_dryOf 19 = .ok (.aload_n 0, 1) := by decide +kernel
theorem dX12_dryOf_20 : decode cX12_dryOf 20 = .ok (.getfield 70, 3) := by decide +kernel
theorem dX12_dryOf_23 : decode cX12_dryOf 23 = .ok (.iload_n 2, 1) := by decide +kernel
theorem dX12_dryOf_24 : decode cX12_dryOf 24 = .ok (.iaload, 1) := by decide +kernel
theorem dX12_dryOf_25 : decode cX12_dryOf 25 = .ok (.iload 5, 2) := by decide +kernel
theorem dX12_dryOf_27 : decode cX12_dryOf 27 = .ok (.iadd, 1) := by decide +kernel
theorem dX12_dryOf_28 : decode cX12_dryOf 28 = .ok (.if_icmp .gt 68, 3) := by decide +kernel
theorem dX12_dryOf_31 : decode cX12_dryOf 31 = .ok (.iload 9, 2) := by decide +kernel
theorem dX12_dryOf_33 : decode cX12_dryOf 33 = .ok (.bipush 12, 2) := by decide +kernel
theorem dX12_dryOf_35 : decode cX12_dryOf 35 = .ok (.if_icmp .ge 61, 3) := by decide +kernel
theorem dX12_dryOf_38 : decode cX12_dryOf 38 = .ok (.aload_n 0, 1) := by decide +kernel
theorem dX12_dryOf_39 : decode cX12_dryOf 39 = .ok (.iload_n 1, 1) := by decide +kernel
theorem dX12_dryOf_40 : decode cX12_dryOf 40 = .ok (.iload_n 3, 1) := by decide +kernel
theorem dX12_dryOf_41 : decode cX12_dryOf 41 = .ok (.aload_n 0, 1) := by decide +kernel
theorem dX12_dryOf_42 : decode cX12_dryOf 42 = .ok (.iload 4, 2) := by decide +kernel
theorem dX12_dryOf_44 : decode cX12_dryOf 44 = .ok (.iload 9, 2) := by decide +kernel
theorem dX12_dryOf_46 : decode cX12_dryOf 46 = .ok (.invokevirtual 310, 3) := by decide +kernel
theorem dX12_dryOf_49 : decode cX12_dryOf 49 = .ok (.iload 9, 2) := by decide +kernel
theorem dX12_dryOf_51 : decode cX12_dryOf 51 = .ok (.invokevirtual 267, 3) := by decide +kernel
theorem dX12_dryOf_54 : decode cX12_dryOf 54 = .ok (.aload_n 0, 1) := by decide +kernel
theorem dX12_dryOf_55 : decode cX12_dryOf 55 = .ok (.getfield 79, 3) := by decide +kernel
theorem dX12_dryOf_58 : decode cX12_dryOf 58 = .ok (.iload 6, 2) := by decide +kernel
theorem dX12_dryOf_60 : decode cX12_dryOf 60 = .ok (.iaload, 1) := by decide +kernel
theorem dX12_dryOf_61 : decode cX12_dryOf 61 = .ok (.if_icmp .ge 10, 3) := by decide +kernel
theorem dX12_dryOf_64 : decode cX12_dryOf 64 = .ok (.iload 7, 2) := by decide +kernel
theorem dX12_dryOf_66 : decode cX12_dryOf 66 = .ok (.iconst 1, 1) := by decide +kernel
theorem dX12_dryOf_67 : decode cX12_dryOf 67 = .ok (.iadd, 1) := by decide +kernel
theorem dX12_dryOf_68 : decode cX12_dryOf 68 = .ok (.goto 4, 3) := by decide +kernel
theorem dX12_dryOf_71 : decode cX12_dryOf 71 = .ok (.iconst 0, 1) := by decide +kernel
theorem dX12_dryOf_72 : decode cX12_dryOf 72 = .ok (.istore 7, 2) := by decide +kernel
theorem dX12_dryOf_74 : decode cX12_dryOf 74 = .ok (.iload 7, 2) := by decide +kernel
theorem dX12_dryOf_76 : decode cX12_dryOf 76 = .ok (.iload 8, 2) := by decide +kernel
theorem dX12_dryOf_78 : decode cX12_dryOf 78 = .ok (.if_icmp .le 8, 3) := by decide +kernel
theorem dX12_dryOf_81 : decode cX12_dryOf 81 = .ok (.iload 7, 2) := by decide +kernel
theorem dX12_dryOf_83 : decode cX12_dryOf 83 = .ok (.goto 5, 3) := by decide +kernel
theorem dX12_dryOf_86 : decode cX12_dryOf 86 = .ok (.iload 8, 2) := by decide +kernel
theorem dX12_dryOf_88 : decode cX12_dryOf 88 = .ok (.istore 8, 2) := by decide +kernel
theorem dX12_dryOf_90 : decode cX12_dryOf 90 = .ok (.iinc 9 1, 3) := by decide +kernel
theorem dX12_dryOf_93 : decode cX12_dryOf 93 = .ok (.goto (-76), 3) := by decide +kernel
theorem dX12_dryOf_96 : decode cX12_dryOf 96 = .ok (.iload 8, 2) := by decide +kernel
theorem dX12_dryOf_98 : decode cX12_dryOf 98 = .ok (.ireturn, 1) := by decide +kernel
abbrev M_X12_dryOf : MI := (RX12, cX12_dryOf, 10, (some .int), ({ frames := 4, cells := 0, slots := 0, locals := 95 } : Room), 0, 0, false)
def f_X12_dryOf_b88 (h : AH) (N : Nat) (K17 : Nat → Int32 → Int32 → Int32 → Int32 → Int32 → Int32 → Int32 → Int32 → Int32 → Option Int32) (x0 : Nat) (x1 : Int32) (x2 : Int32) (x3 : Int32) (x4 : Int32) (x5 : Int32) (x6 : Int32) (x7 : Int32) (x9 : Int32) (s9 : Int32) : Option Int32 := K17 x0 x1 x2 x3 x4 x5 x6 x7 s9 (x9 + 1)
def f_X12_dryOf_b72 (h : AH) (N : Nat) (K17 : Nat → Int32 → Int32 → Int32 → Int32 → Int32 → Int32 → Int32 → Int32 → Int32 → Option Int32) (x0 : Nat) (x1 : Int32) (x2 : Int32) (x3 : Int32) (x4 : Int32) (x5 : Int32) (x6 : Int32) (x8 : Int32) (x9 : Int32) (s9 : Int32) : Option Int32 := (if s9 ≤ x8 then f_X12_dryOf_b88 h N K17 x0 x1 x2 x3 x4 x5 x6 s9 x9 x8 else f_X12_dryOf_b88 h N K17 x0 x1 x2 x3 x4 x5 x6 s9 x9 s9)
def f_X12_dryOf_b17_body (h : AH) (N : Nat) (K17 : Nat → Int32 → Int32 → Int32 → Int32 → Int32 → Int32 → Int32 → Int32 → Int32 → Option Int32) (x0 : Nat) (x1 : Int32) (x2 : Int32) (x3 : Int32) (x4 : Int32) (x5 : Int32) (x6 : Int32) (x7 : Int32) (x8 : Int32) (x9 : Int32) : Option Int32 := (xgr h x0 13 22).bind fun v3 => (xia h v3 x2).bind fun v4 => (if (v4 + x5) < x9 then some x8 else (if 12 ≤ x9 then some x8 else (f_X12_seasonOf h x0 x4 x9).bind fun v7 => (f_X12_filledOf h N x0 x1 x3 v7 x9).bind fun v8 => (xgr h x0 13 25).bind fun v9 => (xia h v9 x6).bind fun v10 => (if v10 ≤ v8 then f_X12_dryOf_b72 h N K17 x0 x1 x2 x3 x4 x5 x6 x8 x9 0 else f_X12_dryOf_b72 h N K17 x0 x1 x2 x3 x4 x5 x6 x8 x9 (x7 + 1))))
def f_X12_dryOf_b17 (h : AH) (N : Nat) : Nat → Nat → Int32 → Int32 → Int32 → Int32 → Int32 → Int32 → Int32 → Int32 → Int32 → Option Int32
  | 0, _, _, _, _, _, _, _, _, _, _ => none
  | n + 1, x0, x1, x2, x3, x4, x5, x6, x7, x8, x9 => f_X12_dryOf_b17_body h N  (f_X12_dryOf_b17 h N  n) x0 x1 x2 x3 x4 x5 x6 x7 x8 x9
def f_X12_dryOf (h : AH) (N : Nat) (p0 : Nat) (p1 : Int32) (p2 : Int32) (p3 : Int32) (p4 : Int32) (p5 : Int32) (p6 : Int32) : Option Int32 := if kd h p0 = 13 + 1 then (xgr h p0 13 21).bind fun v1 => (xia h v1 p2).bind fun v2 => f_X12_dryOf_b17 h N N p0 p1 p2 p3 p4 p5 p6 0 0 (v2 + p5) else none
theorem g_X12_dryOf {h : AH} {N : Nat} {p0 : Nat} {p1 : Int32} {p2 : Int32} {p3 : Int32} {p4 : Int32} {p5 : Int32} {p6 : Int32} {x : Int32} (e : f_X12_dryOf h N p0 p1 p2 p3 p4 p5 p6 = some x) : kd h p0 = 13 + 1 := by
  unfold f_X12_dryOf at e
  by_cases hk : kd h p0 = 13 + 1
  · exact hk
  · rw [if_neg hk] at e
    cases e
theorem km_X12_dryOf : KM yX12_dryOf M_X12_dryOf 6 := ⟨in_tb 1596 (by decide +kernel) rfl, in_tb 9 (by decide +kernel) rfl, by decide +kernel, rfl, rfl⟩
theorem hm_X12_dryOf : M_X12_dryOf.2.2.2.2.2.1 = 0 ∧ M_X12_dryOf.2.2.2.2.2.2.1 = 0 := ⟨rfl, rfl⟩
section
variable {l : Launch} {g : GG}
set_option maxRecDepth 100000 in
set_option maxHeartbeats 4000000 in
theorem t_X12_dryOf_b88 (h : AH) (N : Nat) (K17 : Nat → Int32 → Int32 → Int32 → Int32 → Int32 → Int32 → Int32 → Int32 → Int32 → Option Int32) (hK17 : ∀ (z0 : Nat) (z1 : Int32) (z2 : Int32) (z3 : Int32) (z4 : Int32) (z5 : Int32) (z6 : Int32) (z7 : Int32) (z8 : Int32) (z9 : Int32), AO l g M_X12_dryOf false h 17 [(0, .ref z0), (1, .int z1), (2, .int z2), (3, .int z3), (4, .int z4), (5, .int z5), (6, .int z6), (7, .int z7), (8, .int z8), (9, .int z9)] [] h 0 0 (rPi h) (K17 z0 z1 z2 z3 z4 z5 z6 z7 z8 z9)) (x0 : Nat) (x1 : Int32) (x2 : Int32) (x3 : Int32) (x4 : Int32) (x5 : Int32) (x6 : Int32) (x7 : Int32) (x9 : Int32) (s9 : Int32) : AO l g M_X12_dryOf false h 88 [(0, .ref x0), (1, .int x1), (2, .int x2), (3, .int x3), (4, .int x4), (5, .int x5), (6, .int x6), (7, .int x7), (9, .int x9)] [.int s9] h 0 0 (rPi h) (f_X12_dryOf_b88 h N K17 x0 x1 x2 x3 x4 x5 x6 x7 x9 s9) := by
  unfold f_X12_dryOf_b88
  refine a_istore (lc2 := [(8, .int s9), (0, .ref x0), (1, .int x1), (2, .int x2), (3, .int x3), (4, .int x4), (5, .int x5), (6, .int x6), (7, .int x7), (9, .int x9)]) dX12_dryOf_88 (by decide) rfl ?_
  refine a_iinc (q := 9) (v := (x9 + 1)) (lc2 := [(9, .int (x9 + 1)), (8, .int s9), (0, .ref x0), (1, .int x1), (2, .int x2), (3, .int x3), (4, .int x4), (5, .int x5), (6, .int x6), (7, .int x7)]) dX12_dryOf_90 rfl rfl (by decide) rfl ?_
  refine a_goto 17 dX12_dryOf_93 (by decide) ?_
  refine a_pick (lc2 := [(0, .ref x0), (1, .int x1), (2, .int x2), (3, .int x3), (4, .int x4), (5, .int x5), (6, .int x6), (7, .int x7), (8, .int s9), (9, .int (x9 + 1))]) [2, 3, 4, 5, 6, 7, 8, 9, 1, 0] rfl ?_
  exact hK17 x0 x1 x2 x3 x4 x5 x6 x7 s9 (x9 + 1)
set_option maxRecDepth 100000 in
set_option maxHeartbeats 4000000 in
theorem t_X12_dryOf_b72 (h : AH) (N : Nat) (K17 : Nat → Int32 → Int32 → Int32 → Int32 → Int32 → Int32 → Int32 → Int32 → Int32 → Option Int32) (hK17 : ∀ (z0 : Nat) (z1 : Int32) (z2 : Int32) (z3 : Int32) (z4 : Int32) (z5 : Int32) (z6 : Int32) (z7 : Int32) (z8 : Int32) (z9 : Int32), AO l g M_X12_dryOf false h 17 [(0, .ref z0), (1, .int z1), (2, .int z2), (3, .int z3), (4, .int z4), (5, .int z5), (6, .int z6), (7, .int z7), (8, .int z8), (9, .int z9)] [] h 0 0 (rPi h) (K17 z0 z1 z2 z3 z4 z5 z6 z7 z8 z9)) (x0 : Nat) (x1 : Int32) (x2 : Int32) (x3 : Int32) (x4 : Int32) (x5 : Int32) (x6 : Int32) (x8 : Int32) (x9 : Int32) (s9 : Int32) : AO l g M_X12_dryOf false h 72 [(0, .ref x0), (1, .int x1), (2, .int x2), (3, .int x3), (4, .int x4), (5, .int x5), (6, .int x6), (8, .int x8), (9, .int x9)] [.int s9] h 0 0 (rPi h) (f_X12_dryOf_b72 h N K17 x0 x1 x2 x3 x4 x5 x6 x8 x9 s9) := by
  unfold f_X12_dryOf_b72
  refine a_istore (lc2 := [(7, .int s9), (0, .ref x0), (1, .int x1), (2, .int x2), (3, .int x3), (4, .int x4), (5, .int x5), (6, .int x6), (8, .int x8), (9, .int x9)]) dX12_dryOf_72 (by decide) rfl ?_
  refine a_iload dX12_dryOf_74 0 rfl ?_
  refine a_iload dX12_dryOf_76 8 rfl ?_
  refine a_icmp_le 86 dX12_dryOf_78 (by decide) (fun c12 => ?_) (fun c12 => ?_)
  · refine a_iload dX12_dryOf_86 8 rfl ?_
    refine a_pick (lc2 := [(0, .ref x0), (1, .int x1), (2, .int x2), (3, .int x3), (4, .int x4), (5, .int x5), (6, .int x6), (7, .int s9), (9, .int x9)]) [1, 2, 3, 4, 5, 6, 7, 0, 9] rfl ?_
    exact t_X12_dryOf_b88 h N K17 hK17 x0 x1 x2 x3 x4 x5 x6 s9 x9 x8
  · refine a_iload dX12_dryOf_81 0 rfl ?_
    refine a_goto 88 dX12_dryOf_83 (by decide) ?_
    refine a_pick (lc2 := [(0, .ref x0), (1, .int x1), (2, .int x2), (3, .int x3), (4, .int x4), (5, .int x5), (6, .int x6), (7, .int s9), (9, .int x9)]) [1, 2, 3, 4, 5, 6, 7, 0, 9] rfl ?_
    exact t_X12_dryOf_b88 h N K17 hK17 x0 x1 x2 x3 x4 x5 x6 s9 x9 s9
set_option maxRecDepth 100000 in
set_option maxHeartbeats 4000000 in
theorem t_X12_dryOf_b17_body (h : AH) (N : Nat) (K17 : Nat → Int32 → Int32 → Int32 → Int32 → Int32 → Int32 → Int32 → Int32 → Int32 → Option Int32) (hK17 : ∀ (z0 : Nat) (z1 : Int32) (z2 : Int32) (z3 : Int32) (z4 : Int32) (z5 : Int32) (z6 : Int32) (z7 : Int32) (z8 : Int32) (z9 : Int32), AO l g M_X12_dryOf false h 17 [(0, .ref z0), (1, .int z1), (2, .int z2), (3, .int z3), (4, .int z4), (5, .int z5), (6, .int z6), (7, .int z7), (8, .int z8), (9, .int z9)] [] h 0 0 (rPi h) (K17 z0 z1 z2 z3 z4 z5 z6 z7 z8 z9)) (x0 : Nat) (x1 : Int32) (x2 : Int32) (x3 : Int32) (x4 : Int32) (x5 : Int32) (x6 : Int32) (x7 : Int32) (x8 : Int32) (x9 : Int32) : AO l g M_X12_dryOf false h 17 [(0, .ref x0), (1, .int x1), (2, .int x2), (3, .int x3), (4, .int x4), (5, .int x5), (6, .int x6), (7, .int x7), (8, .int x8), (9, .int x9)] [] h 0 0 (rPi h) (f_X12_dryOf_b17_body h N K17 x0 x1 x2 x3 x4 x5 x6 x7 x8 x9) := by
  unfold f_X12_dryOf_b17_body
  refine a_iload dX12_dryOf_17 9 rfl ?_
  refine a_aload_n dX12_dryOf_19 rfl 0 rfl ?_
  refine a_getr kc13 22 dX12_dryOf_20 (by decide) rfl w_fieldLink_RainCoverModel_70 (fun v3 => ?_)
  refine a_iload_n dX12_dryOf_23 rfl 2 rfl ?_
  refine a_iald dX12_dryOf_24 (fun v4 => ?_)
  refine a_iload dX12_dryOf_25 5 rfl ?_
  refine a_iadd dX12_dryOf_27 ?_
  refine a_icmp_gt 96 dX12_dryOf_28 (by decide) (fun c5 => ?_) (fun c5 => ?_)
  · refine a_iload dX12_dryOf_96 8 rfl ?_
    exact a_iret dX12_dryOf_98 rfl rfl (by decide) (by decide)
  · refine a_iload dX12_dryOf_31 9 rfl ?_
    refine a_bipush (v := 12) dX12_dryOf_33 (by decide) ?_
    refine a_icmp_ge 96 dX12_dryOf_35 (by decide) (fun c6 => ?_) (fun c6 => ?_)
    · refine a_iload dX12_dryOf_96 8 rfl ?_
      exact a_iret dX12_dryOf_98 rfl rfl (by decide) (by decide)
    · refine a_aload_n dX12_dryOf_38 rfl 0 rfl ?_
      refine a_iload_n dX12_dryOf_39 rfl 1 rfl ?_
      refine a_iload_n dX12_dryOf_40 rfl 3 rfl ?_
      refine a_aload_n dX12_dryOf_41 rfl 0 rfl ?_
      refine a_iload dX12_dryOf_42 4 rfl ?_
      refine a_iload dX12_dryOf_44 9 rfl ?_
      refine a_cV_Pi (r := x0) (ci := 13) (as := [.int x4, .int x9]) (st := [.int x3, .int x1, .ref x0]) dX12_dryOf_46 (c_X12_seasonOf l g h x0 x4 x9) rfl km_X12_seasonOf (hm_X12_seasonOf) rfl (by decide) rfl (fun _ ee => g_X12_seasonOf ee) w_methodLink_RainCoverModel_310 w_instanceMethod_RainCoverModel_seasonOf__II_I w_selects_RainCoverModel_RainCoverModel_seasonOf__II_I_RainCoverModel_seasonOf__II_I ⟨⟨by decide, by decide⟩, ⟨by decide, by decide⟩⟩ (Nat.le_of_ble_eq_true rfl) (fun v7 => ?_)
      refine a_iload dX12_dryOf_49 9 rfl ?_
      refine a_cV_Pi (r := x0) (ci := 13) (as := [.int x1, .int x3, .int v7, .int x9]) (st := []) dX12_dryOf_51 (c_X12_filledOf l g h N x0 x1 x3 v7 x9) rfl km_X12_filledOf (hm_X12_filledOf) rfl (by decide) rfl (fun _ ee => g_X12_filledOf ee) w_methodLink_RainCoverModel_267 w_instanceMethod_RainCoverModel_filledOf__IIII_I w_selects_RainCoverModel_RainCoverModel_filledOf__IIII_I_RainCoverModel_filledOf__IIII_I ⟨⟨by decide, by decide⟩, ⟨by decide, by decide⟩⟩ (Nat.le_of_ble_eq_true rfl) (fun v8 => ?_)
      refine a_aload_n dX12_dryOf_54 rfl 0 rfl ?_
      refine a_getr kc13 25 dX12_dryOf_55 (by decide) rfl w_fieldLink_RainCoverModel_79 (fun v9 => ?_)
      refine a_iload dX12_dryOf_58 6 rfl ?_
      refine a_iald dX12_dryOf_60 (fun v10 => ?_)
      refine a_icmp_ge 71 dX12_dryOf_61 (by decide) (fun c11 => ?_) (fun c11 => ?_)
      · refine a_iconst (v := 0) dX12_dryOf_71 (by decide) ?_
        refine a_pick (lc2 := [(0, .ref x0), (1, .int x1), (2, .int x2), (3, .int x3), (4, .int x4), (5, .int x5), (6, .int x6), (8, .int x8), (9, .int x9)]) [0, 1, 2, 3, 4, 5, 6, 8, 9] rfl ?_
        exact t_X12_dryOf_b72 h N K17 hK17 x0 x1 x2 x3 x4 x5 x6 x8 x9 0
      · refine a_iload dX12_dryOf_64 7 rfl ?_
        refine a_iconst (v := 1) dX12_dryOf_66 (by decide) ?_
        refine a_iadd dX12_dryOf_67 ?_
        refine a_goto 72 dX12_dryOf_68 (by decide) ?_
        refine a_pick (lc2 := [(0, .ref x0), (1, .int x1), (2, .int x2), (3, .int x3), (4, .int x4), (5, .int x5), (6, .int x6), (8, .int x8), (9, .int x9)]) [0, 1, 2, 3, 4, 5, 6, 8, 9] rfl ?_
        exact t_X12_dryOf_b72 h N K17 hK17 x0 x1 x2 x3 x4 x5 x6 x8 x9 (x7 + 1)
set_option maxRecDepth 100000 in
set_option maxHeartbeats 4000000 in
theorem t_X12_dryOf_b17 (h : AH) (N : Nat) : ∀ (n : Nat) (x0 : Nat) (x1 : Int32) (x2 : Int32) (x3 : Int32) (x4 : Int32) (x5 : Int32) (x6 : Int32) (x7 : Int32) (x8 : Int32) (x9 : Int32) , AO l g M_X12_dryOf false h 17 [(0, .ref x0), (1, .int x1), (2, .int x2), (3, .int x3), (4, .int x4), (5, .int x5), (6, .int x6), (7, .int x7), (8, .int x8), (9, .int x9)] [] h 0 0 (rPi h) (f_X12_dryOf_b17 h N  n x0 x1 x2 x3 x4 x5 x6 x7 x8 x9) := by
  intro n
  induction n with
  | zero => intro x0 x1 x2 x3 x4 x5 x6 x7 x8 x9; exact a_eq rfl a_none
  | succ n ih => intro x0 x1 x2 x3 x4 x5 x6 x7 x8 x9; exact a_eq rfl (t_X12_dryOf_b17_body h N  (f_X12_dryOf_b17 h N  n) ih x0 x1 x2 x3 x4 x5 x6 x7 x8 x9)
end
set_option maxRecDepth 100000 in
set_option maxHeartbeats 4000000 in
theorem c_X12_dryOf (l : Launch) (g : GG) (h : AH) (N : Nat) (p0 : Nat) (p1 : Int32) (p2 : Int32) (p3 : Int32) (p4 : Int32) (p5 : Int32) (p6 : Int32) : CN l g yX12_dryOf M_X12_dryOf false [.ref p0, .int p1, .int p2, .int p3, .int p4, .int p5, .int p6] h ((rPi h)) (f_X12_dryOf h N p0 p1 p2 p3 p4 p5 p6) := by
  refine CN.of (by decide) rfl (fun hh => by first | rfl | cases hh) (Nat.le_of_ble_eq_true rfl) ?_
  unfold f_X12_dryOf
  refine a_gd (fun hkd => ?_)
  refine a_iconst (v := 0) dX12_dryOf_0 (by decide) ?_
  refine a_istore (lc2 := [(7, .int 0), (0, .ref p0), (1, .int p1), (2, .int p2), (3, .int p3), (4, .int p4), (5, .int p5), (6, .int p6)]) dX12_dryOf_1 (by decide) rfl ?_
  refine a_iconst (v := 0) dX12_dryOf_3 (by decide) ?_
  refine a_istore (lc2 := [(8, .int 0), (7, .int 0), (0, .ref p0), (1, .int p1), (2, .int p2), (3, .int p3), (4, .int p4), (5, .int p5), (6, .int p6)]) dX12_dryOf_4 (by decide) rfl ?_
  refine a_aload_n dX12_dryOf_6 rfl 2 rfl ?_
  refine a_getr kc13 21 dX12_dryOf_7 (by decide) rfl w_fieldLink_RainCoverModel_67 (fun v1 => ?_)
  refine a_iload_n dX12_dryOf_10 rfl 4 rfl ?_
  refine a_iald dX12_dryOf_11 (fun v2 => ?_)
  refine a_iload dX12_dryOf_12 7 rfl ?_
  refine a_iadd dX12_dryOf_14 ?_
  refine a_istore (lc2 := [(9, .int (v2 + p5)), (8, .int 0), (7, .int 0), (0, .ref p0), (1, .int p1), (2, .int p2), (3, .int p3), (4, .int p4), (5, .int p5), (6, .int p6)]) dX12_dryOf_15 (by decide) rfl ?_
  refine a_pick (lc2 := [(0, .ref p0), (1, .int p1), (2, .int p2), (3, .int p3), (4, .int p4), (5, .int p5), (6, .int p6), (7, .int 0), (8, .int 0), (9, .int (v2 + p5))]) [3, 4, 5, 6, 7, 8, 9, 2, 1, 0] rfl ?_
  exact t_X12_dryOf_b17 h N N p0 p1 p2 p3 p4 p5 p6 0 0 (v2 + p5)
theorem dX12_greenOf_0 : decode cX12_greenOf 0 = .ok (.iconst (-1), 1) := by decide +kernel
theorem dX12_greenOf_1 : decode cX12_greenOf 1 = .ok (.istore 6, 2) := by decide +kernel
theorem dX12_greenOf_3 : decode cX12_greenOf 3 = .ok (.aload_n 0, 1) := by decide +kernel
theorem dX12_greenOf_4 : decode cX12_greenOf 4 = .ok (.getfield 67, 3) := by decide +kernel
theorem dX12_greenOf_7 : decode cX12_greenOf 7 = .ok (.iload_n 2, 1) := by decide +kernel
theorem dX12_greenOf_8 : decode cX12_greenOf 8 = .ok (.iaload, 1) := by decide +kernel
theorem dX12_greenOf_9 : decode cX12_greenOf 9 = .ok (.iload 5, 2) := by decide +kernel
theorem dX12_greenOf_11 : decode cX12_greenOf 11 = .ok (.iadd, 1) := by decide +kernel
theorem dX12_greenOf_12 : decode cX12_greenOf 12 = .ok (.istore 7, 2) := by decide +kernel
theorem dX12_greenOf_14 : decode cX12_greenOf 14 = .ok (.iload 7, 2) := by decide +kernel
theorem dX12_greenOf_16 : decode cX12_greenOf 16 = .ok (.aload_n 0, 1) := by decide +kernel
theorem dX12_greenOf_17 : decode cX12_greenOf 17 = .ok (.getfield 70, 3) := by decide +kernel
theorem dX12_greenOf_20 : decode cX12_greenOf 20 = .ok (.iload_n 2, 1) := by decide +kernel
theorem dX12_greenOf_21 : decode cX12_greenOf 21 = .ok (.iaload, 1) := by decide +kernel
theorem dX12_greenOf_22 : decode cX12_greenOf 22 = .ok (.iload 5, 2) := by decide +kernel
theorem dX12_greenOf_24 : decode cX12_greenOf 24 = .ok (.iadd, 1) := by decide +kernel
theorem dX12_greenOf_25 : decode cX12_greenOf 25 = .ok (.if_icmp .gt 67, 3) := by decide +kernel
theorem dX12_greenOf_28 : decode cX12_greenOf 28 = .ok (.iload 7, 2) := by decide +kernel
theorem dX12_greenOf_30 : decode cX12_greenOf 30 = .ok (.bipush 12, 2) := by decide +kernel
theorem dX12_greenOf_32 : decode cX12_greenOf 32 = .ok (.if_icmp .ge 60, 3) := by decide +kernel
theorem dX12_greenOf_35 : decode cX12_greenOf 35 = .ok (.aload_n 0, 1) := by decide +kernel
theorem dX12_greenOf_36 : decode cX12_greenOf 36 = .ok (.getfield 43, 3) := by decide +kernel
theorem dX12_greenOf_39 : decode cX12_greenOf 39 = .ok (.sipush 768, 3) := by decide +kernel
theorem dX12_greenOf_42 : decode cX12_greenOf 42 = .ok (.iload_n 1, 1) := by decide +kernel
theorem dX12_greenOf_43 : decode cX12_greenOf 43 = .ok (.imul, 1) := by decide +kernel
theorem dX12_greenOf_44 : decode cX12_greenOf 44 = .ok (.aload_n 0, 1) := by decide +kernel
theorem dX12_greenOf_45 : decode cX12_greenOf 45 = .ok (.getfield 9, 3) := by decide +kernel
theorem dX12_greenOf_48 : decode cX12_greenOf 48 = .ok (.iload_n 3, 1) := by decide +kernel
theorem dX12_greenOf_49 : decode cX12_greenOf 49 = .ok (.iaload, 1) := by decide +kernel
theorem dX12_greenOf_50 : decode cX12_greenOf 50 = .ok (.bipush 25, 2) := by decide +kernel
theorem dX12_greenOf_52 : decode cX12_greenOf 52 = .ok (.idiv, 1) := by decide +kernel
theorem dX12_greenOf_53 : decode cX12_greenOf 53 = .ok (.aload_n 0, 1) := by decide +kernel
theorem dX12_greenOf_54 : decode cX12_greenOf 54 = .ok (.iload 4, 2) := by decide +kernel
theorem dX12_greenOf_56 : decode cX12_greenOf 56 = .ok (.iload 7, 2) := by decide +kernel
theorem dX12_greenOf_58 : decode cX12_greenOf 58 = .ok (.invokevirtual 310, 3) := by decide +kernel
theorem dX12_greenOf_61 : decode cX12_greenOf 61 = .ok (.iload 7, 2) := by decide +kernel
theorem dX12_greenOf_63 : decode cX12_greenOf 63 = .ok (.invokestatic 234, 3) := by decide +kernel
theorem dX12_greenOf_66 : decode cX12_greenOf 66 = .ok (.iadd, 1) := by decide +kernel
theorem dX12_greenOf_67 : decode cX12_greenOf 67 = .ok (.iaload, 1) := by decide +kernel
theorem dX12_greenOf_68 : decode cX12_greenOf 68 = .ok (.istore 8, 2) := by decide +kernel
theorem dX12_greenOf_70 : decode cX12_greenOf 70 = .ok (.iload 8, 2) := by decide +kernel
theorem dX12_greenOf_72 : decode cX12_greenOf 72 = .ok (.iload 6, 2) := by decide +kernel
theorem dX12_greenOf_74 : decode cX12_greenOf 74 = .ok (.if_icmp .le 8, 3) := by decide +kernel
theorem dX12_greenOf_77 : decode cX12_greenOf 77 = .ok (.iload 8, 2) := by decide +kernel
theorem dX12_greenOf_79 : decode cX12_greenOf 79 = .ok (.goto 5, 3) := by decide +kernel
theorem dX12_greenOf_82 : decode cX12_greenOf 82 = .ok (.iload 6, 2) := by decide +kernel
theorem dX12_greenOf_84 : decode cX12_greenOf 84 = .ok (.istore 6, 2) := by decide +kernel
theorem dX12_greenOf_86 : decode cX12_greenOf 86 = .ok (.iinc 7 1, 3) := by decide +kernel
theorem dX12_greenOf_89 : decode cX12_greenOf 89 = .ok (.goto (-75), 3) := by decide +kernel
theorem dX12_greenOf_92 : decode cX12_greenOf 92 = .ok (.iload 6, 2) := by decide +kernel
theorem dX12_greenOf_94 : decode cX12_greenOf 94 = .ok (.ireturn, 1) := by decide +kernel
abbrev M_X12_greenOf : MI := (RX12, cX12_greenOf, 9, (some .int), ({ frames := 1, cells := 0, slots := 0, locals := 22 } : Room), 0, 0, false)
def f_X12_greenOf_b84 (h : AH) (N : Nat) (K14 : Nat → Int32 → Int32 → Int32 → Int32 → Int32 → Int32 → Int32 → Option Int32) (x0 : Nat) (x1 : Int32) (x2 : Int32) (x3 : Int32) (x4 : Int32) (x5 : Int32) (x7 : Int32) (s7 : Int32) : Option Int32 := K14 x0 x1 x2 x3 x4 x5 s7 (x7 + 1)
def f_X12_greenOf_b14_body (h : AH) (N : Nat) (K14 : Nat → Int32 → Int32 → Int32 → Int32 → Int32 → Int32 → Int32 → Option Int32) (x0 : Nat) (x1 : Int32) (x2 : Int32) (x3 : Int32) (x4 : Int32) (x5 : Int32) (x6 : Int32) (x7 : Int32) : Option Int32 := (xgr h x0 13 22).bind fun v3 => (xia h v3 x2).bind fun v4 => (if (v4 + x5) < x7 then some x6 else (if 12 ≤ x7 then some x6 else (xgr h x0 13 12).bind fun v7 => (xgr h x0 13 1).bind fun v8 => (xia h v8 x3).bind fun v9 => (if 25 = 0 then none else (f_X12_seasonOf h x0 x4 x7).bind fun v11 => (f_X12_spotOf h (v9 / 25) v11 x7).bind fun v12 => (xia h v7 ((768 * x1) + v12)).bind fun v13 => (if v13 ≤ x6 then f_X12_greenOf_b84 h N K14 x0 x1 x2 x3 x4 x5 x7 x6 else f_X12_greenOf_b84 h N K14 x0 x1 x2 x3 x4 x5 x7 v13))))
def f_X12_greenOf_b14 (h : AH) (N : Nat) : Nat → Nat → Int32 → Int32 → Int32 → Int32 → Int32 → Int32 → Int32 → Option Int32
  | 0, _, _, _, _, _, _, _, _ => none
  | n + 1, x0, x1, x2, x3, x4, x5, x6, x7 => f_X12_greenOf_b14_body h N  (f_X12_greenOf_b14 h N  n) x0 x1 x2 x3 x4 x5 x6 x7
def f_X12_greenOf (h : AH) (N : Nat) (p0 : Nat) (p1 : Int32) (p2 : Int32) (p3 : Int32) (p4 : Int32) (p5 : Int32) : Option Int32 := if kd h p0 = 13 + 1 then (xgr h p0 13 21).bind fun v1 => (xia h v1 p2).bind fun v2 => f_X12_greenOf_b14 h N N p0 p1 p2 p3 p4 p5 (-1) (v2 + p5) else none
theorem g_X12_greenOf {h : AH} {N : Nat} {p0 : Nat} {p1 : Int32} {p2 : Int32} {p3 : Int32} {p4 : Int32} {p5 : Int32} {x : Int32} (e : f_X12_greenOf h N p0 p1 p2 p3 p4 p5 = some x) : kd h p0 = 13 + 1 := by
  unfold f_X12_greenOf at e
  by_cases hk : kd h p0 = 13 + 1
  · exact hk
  · rw [if_neg hk] at e
    cases e
theorem km_X12_greenOf : KM yX12_greenOf M_X12_greenOf 5 := ⟨in_tb 1600 (by decide +kernel) rfl, in_tb 9 (by decide +kernel) rfl, by decide +kernel, rfl, rfl⟩
theorem hm_X12_greenOf : M_X12_greenOf.2.2.2.2.2.1 = 0 ∧ M_X12_greenOf.2.2.2.2.2.2.1 = 0 := ⟨rfl, rfl⟩
section
variable {l : Launch} {g : GG}
set_option maxRecDepth 100000 in
set_option maxHeartbeats 4000000 in
theorem t_X12_greenOf_b84 (h : AH) (N : Nat) (K14 : Nat → Int32 → Int32 → Int32 → Int32 → Int32 → Int32 → Int32 → Option Int32) (hK14 : ∀ (z0 : Nat) (z1 : Int32) (z2 : Int32) (z3 : Int32) (z4 : Int32) (z5 : Int32) (z6 : Int32) (z7 : Int32), AO l g M_X12_greenOf false h 14 [(0, .ref z0), (1, .int z1), (2, .int z2), (3, .int z3), (4, .int z4), (5, .int z5), (6, .int z6), (7, .int z7)] [] h 0 0 (rPi h) (K14 z0 z1 z2 z3 z4 z5 z6 z7)) (x0 : Nat) (x1 : Int32) (x2 : Int32) (x3 : Int32) (x4 : Int32) (x5 : Int32) (x7 : Int32) (s7 : Int32) : AO l g M_X12_greenOf false h 84 [(0, .ref x0), (1, .int x1), (2, .int x2), (3, .int x3), (4, .int x4), (5, .int x5), (7, .int x7)] [.int s7] h 0 0 (rPi h) (f_X12_greenOf_b84 h N K14 x0 x1 x2 x3 x4 x5 x7 s7) := by
  unfold f_X12_greenOf_b84
  refine a_istore (lc2 := [(6, .int s7), (0, .ref x0), (1, .int x1), (2, .int x2), (3, .int x3), (4, .int x4), (5, .int x5), (7, .int x7)]) dX12_greenOf_84 (by decide) rfl ?_
  refine a_iinc (q := 7) (v := (x7 + 1)) (lc2 := [(7, .int (x7 + 1)), (6, .int s7), (0, .ref x0), (1, .int x1), (2, .int x2), (3, .int x3), (4, .int x4), (5, .int x5)]) dX12_greenOf_86 rfl rfl (by decide) rfl ?_
  refine a_goto 14 dX12_greenOf_89 (by decide) ?_
  refine a_pick (lc2 := [(0, .ref x0), (1, .int x1), (2, .int x2), (3, .int x3), (4, .int x4), (5, .int x5), (6, .int s7), (7, .int (x7 + 1))]) [2, 3, 4, 5, 6, 7, 1, 0] rfl ?_
  exact hK14 x0 x1 x2 x3 x4 x5 s7 (x7 + 1)
set_option maxRecDepth 100000 in
set_option maxHeartbeats 4000000 in
theorem t_X12_greenOf_b14_body (h : AH) (N : Nat) (K14 : Nat → Int32 → Int32 → Int32 → Int32 → Int32 → Int32 → Int32 → Option Int32) (hK14 : ∀ (z0 : Nat) (z1 : Int32) (z2 : Int32) (z3 : Int32) (z4 : Int32) (z5 : Int32) (z6 : Int32) (z7 : Int32), AO l g M_X12_greenOf false h 14 [(0, .ref z0), (1, .int z1), (2, .int z2), (3, .int z3), (4, .int z4), (5, .int z5), (6, .int z6), (7, .int z7)] [] h 0 0 (rPi h) (K14 z0 z1 z2 z3 z4 z5 z6 z7)) (x0 : Nat) (x1 : Int32) (x2 : Int32) (x3 : Int32) (x4 : Int32) (x5 : Int32) (x6 : Int32) (x7 : Int32) : AO l g M_X12_greenOf false h 14 [(0, .ref x0), (1, .int x1), (2, .int x2), (3, .int x3), (4, .int x4), (5, .int x5), (6, .int x6), (7, .int x7)] [] h 0 0 (rPi h) (f_X12_greenOf_b14_body h N K14 x0 x1 x2 x3 x4 x5 x6 x7) := by
  unfold f_X12_greenOf_b14_body
  refine a_iload dX12_greenOf_14 7 rfl ?_
  refine a_aload_n dX12_greenOf_16 rfl 0 rfl ?_
  refine a_getr kc13 22 dX12_greenOf_17 (by decide) rfl w_fieldLink_RainCoverModel_70 (fun v3 => ?_)
  refine a_iload_n dX12_greenOf_20 rfl 2 rfl ?_
  refine a_iald dX12_greenOf_21 (fun v4 => ?_)
  refine a_iload dX12_greenOf_22 5 rfl ?_
  refine a_iadd dX12_greenOf_24 ?_
  refine a_icmp_gt 92 dX12_greenOf_25 (by decide) (fun c5 => ?_) (fun c5 => ?_)
  · refine a_iload dX12_greenOf_92 6 rfl ?_
    exact a_iret dX12_greenOf_94 rfl rfl (by decide) (by decide)
  · refine a_iload dX12_greenOf_28 7 rfl ?_
    refine a_bipush (v := 12) dX12_greenOf_30 (by decide) ?_
    refine a_icmp_ge 92 dX12_greenOf_32 (by decide) (fun c6 => ?_) (fun c6 => ?_)
    · refine a_iload dX12_greenOf_92 6 rfl ?_
      exact a_iret dX12_greenOf_94 rfl rfl (by decide) (by decide)
    · refine a_aload_n dX12_greenOf_35 rfl 0 rfl ?_
      refine a_getr kc13 12 dX12_greenOf_36 (by decide) rfl w_fieldLink_RainCoverModel_43 (fun v7 => ?_)
      refine a_sipush (v := 768) dX12_greenOf_39 (by decide) ?_
      refine a_iload_n dX12_greenOf_42 rfl 1 rfl ?_
      refine a_imul dX12_greenOf_43 ?_
      refine a_aload_n dX12_greenOf_44 rfl 0 rfl ?_
      refine a_getr kc13 1 dX12_greenOf_45 (by decide) rfl w_fieldLink_RainCoverModel_9 (fun v8 => ?_)
      refine a_iload_n dX12_greenOf_48 rfl 3 rfl ?_
      refine a_iald dX12_greenOf_49 (fun v9 => ?_)
      refine a_bipush (v := 25) dX12_greenOf_50 (by decide) ?_
      refine a_idiv dX12_greenOf_52 (fun c10 => ?_)
      refine a_aload_n dX12_greenOf_53 rfl 0 rfl ?_
      refine a_iload dX12_greenOf_54 4 rfl ?_
      refine a_iload dX12_greenOf_56 7 rfl ?_
      refine a_cV_Pi (r := x0) (ci := 13) (as := [.int x4, .int x7]) (st := [.int (v9 / 25), .int (768 * x1), .ref v7]) dX12_greenOf_58 (c_X12_seasonOf l g h x0 x4 x7) rfl km_X12_seasonOf (hm_X12_seasonOf) rfl (by decide) rfl (fun _ ee => g_X12_seasonOf ee) w_methodLink_RainCoverModel_310 w_instanceMethod_RainCoverModel_seasonOf__II_I w_selects_RainCoverModel_RainCoverModel_seasonOf__II_I_RainCoverModel_seasonOf__II_I ⟨⟨by decide, by decide⟩, ⟨by decide, by decide⟩⟩ (Nat.le_of_ble_eq_true rfl) (fun v11 => ?_)
      refine a_iload dX12_greenOf_61 7 rfl ?_
      refine a_cS_Pi (as := [.int (v9 / 25), .int v11, .int x7]) (st := [.int (768 * x1), .ref v7]) dX12_greenOf_63 (c_X12_spotOf l g h (v9 / 25) v11 x7) rfl km_X12_spotOf (hm_X12_spotOf) w_methodLink_RainCoverModel_234 w_static_RainCoverModel_spotOf__III_I ⟨⟨by decide, by decide⟩, ⟨by decide, by decide⟩⟩ (Nat.le_of_ble_eq_true rfl) (fun v12 => ?_)
      refine a_iadd dX12_greenOf_66 ?_
      refine a_iald dX12_greenOf_67 (fun v13 => ?_)
      refine a_istore (lc2 := [(8, .int v13), (0, .ref x0), (1, .int x1), (2, .int x2), (3, .int x3), (4, .int x4), (5, .int x5), (6, .int x6), (7, .int x7)]) dX12_greenOf_68 (by decide) rfl ?_
      refine a_iload dX12_greenOf_70 0 rfl ?_
      refine a_iload dX12_greenOf_72 7 rfl ?_
      refine a_icmp_le 82 dX12_greenOf_74 (by decide) (fun c14 => ?_) (fun c14 => ?_)
      · refine a_iload dX12_greenOf_82 7 rfl ?_
        refine a_pick (lc2 := [(0, .ref x0), (1, .int x1), (2, .int x2), (3, .int x3), (4, .int x4), (5, .int x5), (7, .int x7)]) [1, 2, 3, 4, 5, 6, 8] rfl ?_
        exact t_X12_greenOf_b84 h N K14 hK14 x0 x1 x2 x3 x4 x5 x7 x6
      · refine a_iload dX12_greenOf_77 0 rfl ?_
        refine a_goto 84 dX12_greenOf_79 (by decide) ?_
        refine a_pick (lc2 := [(0, .ref x0), (1, .int x1), (2, .int x2), (3, .int x3), (4, .int x4), (5, .int x5), (7, .int x7)]) [1, 2, 3, 4, 5, 6, 8] rfl ?_
        exact t_X12_greenOf_b84 h N K14 hK14 x0 x1 x2 x3 x4 x5 x7 v13
set_option maxRecDepth 100000 in
set_option maxHeartbeats 4000000 in
theorem t_X12_greenOf_b14 (h : AH) (N : Nat) : ∀ (n : Nat) (x0 : Nat) (x1 : Int32) (x2 : Int32) (x3 : Int32) (x4 : Int32) (x5 : Int32) (x6 : Int32) (x7 : Int32) , AO l g M_X12_greenOf false h 14 [(0, .ref x0), (1, .int x1), (2, .int x2), (3, .int x3), (4, .int x4), (5, .int x5), (6, .int x6), (7, .int x7)] [] h 0 0 (rPi h) (f_X12_greenOf_b14 h N  n x0 x1 x2 x3 x4 x5 x6 x7) := by
  intro n
  induction n with
  | zero => intro x0 x1 x2 x3 x4 x5 x6 x7; exact a_eq rfl a_none
  | succ n ih => intro x0 x1 x2 x3 x4 x5 x6 x7; exact a_eq rfl (t_X12_greenOf_b14_body h N  (f_X12_greenOf_b14 h N  n) ih x0 x1 x2 x3 x4 x5 x6 x7)
end
set_option maxRecDepth 100000 in
set_option maxHeartbeats 4000000 in
theorem c_X12_greenOf (l : Launch) (g : GG) (h : AH) (N : Nat) (p0 : Nat) (p1 : Int32) (p2 : Int32) (p3 : Int32) (p4 : Int32) (p5 : Int32) : CN l g yX12_greenOf M_X12_greenOf false [.ref p0, .int p1, .int p2, .int p3, .int p4, .int p5] h ((rPi h)) (f_X12_greenOf h N p0 p1 p2 p3 p4 p5) := by
  refine CN.of (by decide) rfl (fun hh => by first | rfl | cases hh) (Nat.le_of_ble_eq_true rfl) ?_
  unfold f_X12_greenOf
  refine a_gd (fun hkd => ?_)
  refine a_iconst (v := (-1)) dX12_greenOf_0 (by decide) ?_
  refine a_istore (lc2 := [(6, .int (-1)), (0, .ref p0), (1, .int p1), (2, .int p2), (3, .int p3), (4, .int p4), (5, .int p5)]) dX12_greenOf_1 (by decide) rfl ?_
  refine a_aload_n dX12_greenOf_3 rfl 1 rfl ?_
  refine a_getr kc13 21 dX12_greenOf_4 (by decide) rfl w_fieldLink_RainCoverModel_67 (fun v1 => ?_)
  refine a_iload_n dX12_greenOf_7 rfl 3 rfl ?_
  refine a_iald dX12_greenOf_8 (fun v2 => ?_)
  refine a_iload dX12_greenOf_9 6 rfl ?_
  refine a_iadd dX12_greenOf_11 ?_
  refine a_istore (lc2 := [(7, .int (v2 + p5)), (6, .int (-1)), (0, .ref p0), (1, .int p1), (2, .int p2), (3, .int p3), (4, .int p4), (5, .int p5)]) dX12_greenOf_12 (by decide) rfl ?_
  refine a_pick (lc2 := [(0, .ref p0), (1, .int p1), (2, .int p2), (3, .int p3), (4, .int p4), (5, .int p5), (6, .int (-1)), (7, .int (v2 + p5))]) [2, 3, 4, 5, 6, 7, 1, 0] rfl ?_
  exact t_X12_greenOf_b14 h N N p0 p1 p2 p3 p4 p5 (-1) (v2 + p5)
theorem dX12_isSo_0 : decode cX12_isSo 0 = .ok (.aload_n 0, 1) := by decide +kernel
theorem dX12_isSo_1 : decode cX12_isSo 1 = .ok (.getfield 64, 3) := by decide +kernel
theorem dX12_isSo_4 : decode cX12_isSo 4 = .ok (.iload_n 2, 1) := by decide +kernel
theorem dX12_isSo_5 : decode cX12_isSo 5 = .ok (.iaload, 1) := by decide +kernel
theorem dX12_isSo_6 : decode cX12_isSo 6 = .ok (.tableswitch 81 8 10 #[26, 42, 60], 26) := by decide +kernel
theorem dX12_isSo_32 : decode cX12_isSo 32 = .ok (.aload_n 0, 1) := by decide +kernel
theorem dX12_isSo_33 : decode cX12_isSo 33 = .ok (.iload_n 1, 1) := by decide +kernel
theorem dX12_isSo_34 : decode cX12_isSo 34 = .ok (.iload_n 2, 1) := by decide +kernel
theorem dX12_isSo_35 : decode cX12_isSo 35 = .ok (.iload_n 3, 1) := by decide +kernel
theorem dX12_isSo_36 : decode cX12_isSo 36 = .ok (.iload 4, 2) := by decide +kernel
theorem dX12_isSo_38 : decode cX12_isSo 38 = .ok (.iload 5, 2) := by decide +kernel
theorem dX12_isSo_40 : decode cX12_isSo 40 = .ok (.invokevirtual 313, 3) := by decide +kernel
theorem dX12_isSo_43 : decode cX12_isSo 43 = .ok (.istore 7, 2) := by decide +kernel
theorem dX12_isSo_45 : decode cX12_isSo 45 = .ok (.goto 71, 3) := by decide +kernel
theorem dX12_isSo_48 : decode cX12_isSo 48 = .ok (.aload_n 0, 1) := by decide +kernel
theorem dX12_isSo_49 : decode cX12_isSo 49 = .ok (.iload_n 1, 1) := by decide +kernel
theorem dX12_isSo_50 : decode cX12_isSo 50 = .ok (.iload_n 2, 1) := by decide +kernel
theorem dX12_isSo_51 : decode cX12_isSo 51 = .ok (.iload_n 3, 1) := by decide +kernel
theorem dX12_isSo_52 : decode cX12_isSo 52 = .ok (.iload 4, 2) := by decide +kernel
theorem dX12_isSo_54 : decode cX12_isSo 54 = .ok (.iload 5, 2) := by decide +kernel
theorem dX12_isSo_56 : decode cX12_isSo 56 = .ok (.iload 6, 2) := by decide +kernel
theorem dX12_isSo_58 : decode cX12_isSo 58 = .ok (.invokevirtual 317, 3) := by decide +kernel
theorem dX12_isSo_61 : decode cX12_isSo 61 = .ok (.istore 7, 2) := by decide +kernel
theorem dX12_isSo_63 : decode cX12_isSo 63 = .ok (.goto 53, 3) := by decide +kernel
theorem dX12_isSo_66 : decode cX12_isSo 66 = .ok (.aload_n 0, 1) := by decide +kernel
theorem dX12_isSo_67 : decode cX12_isSo 67 = .ok (.iload_n 1, 1) := by decide +kernel
theorem dX12_isSo_68 : decode cX12_isSo 68 = .ok (.iload_n 2, 1) := by decide +kernel
theorem dX12_isSo_69 : decode cX12_isSo 69 = .ok (.iload_n 3, 1) := by decide +kernel
theorem dX12_isSo_70 : decode cX12_isSo 70 = .ok (.iload 4, 2) := by decide +kernel
theorem dX12_isSo_72 : decode cX12_isSo 72 = .ok (.iload 5, 2) := by decide +kernel
theorem dX12_isSo_74 : decode cX12_isSo 74 = .ok (.invokevirtual 321, 3) := by decide +kernel
theorem dX12_isSo_77 : decode cX12_isSo 77 = .ok (.istore 7, 2) := by decide +kernel
theorem dX12_isSo_79 : decode cX12_isSo 79 = .ok (.iload 7, 2) := by decide +kernel
theorem dX12_isSo_81 : decode cX12_isSo 81 = .ok (.iconst (-1), 1) := by decide +kernel
theorem dX12_isSo_82 : decode cX12_isSo 82 = .ok (.if_icmp .ne 34, 3) := by decide +kernel
theorem dX12_isSo_85 : decode cX12_isSo 85 = .ok (.iconst 0, 1) := by decide +kernel
theorem dX12_isSo_86 : decode cX12_isSo 86 = .ok (.ireturn, 1) := by decide +kernel
theorem dX12_isSo_87 : decode cX12_isSo 87 = .ok (.aload_n 0, 1) := by decide +kernel
theorem dX12_isSo_88 : decode cX12_isSo 88 = .ok (.getfield 67, 3) := by decide +kernel
theorem dX12_isSo_91 : decode cX12_isSo 91 = .ok (.iload_n 2, 1) := by decide +kernel
theorem dX12_isSo_92 : decode cX12_isSo 92 = .ok (.iaload, 1) := by decide +kernel
theorem dX12_isSo_93 : decode cX12_isSo 93 = .ok (.iload 5, 2) := by decide +kernel
theorem dX12_isSo_95 : decode cX12_isSo 95 = .ok (.iadd, 1) := by decide +kernel
theorem dX12_isSo_96 : decode cX12_isSo 96 = .ok (.bipush 12, 2) := by decide +kernel
theorem dX12_isSo_98 : decode cX12_isSo 98 = .ok (.if_icmp .lt 5, 3) := by decide +kernel
theorem dX12_isSo_101 : decode cX12_isSo 101 = .ok (.iconst 0, 1) := by decide +kernel
theorem dX12_isSo_102 : decode cX12_isSo 102 = .ok (.ireturn, 1) := by decide +kernel
theorem dX12_isSo_103 : decode cX12_isSo 103 = .ok (.aload_n 0, 1) := by decide +kernel
theorem dX12_isSo_104 : decode cX12_isSo 104 = .ok (.iload_n 1, 1) := by decide +kernel
theorem dX12_isSo_105 : decode cX12_isSo 105 = .ok (.iload_n 2, 1) := by decide +kernel
theorem dX12_isSo_106 : decode cX12_isSo 106 = .ok (.iload_n 3, 1) := by decide +kernel
theorem dX12_isSo_107 : decode cX12_isSo 107 = .ok (.iload 4, 2) := by decide +kernel
theorem dX12_isSo_109 : decode cX12_isSo 109 = .ok (.iload 5, 2) := by decide +kernel
theorem dX12_isSo_111 : decode cX12_isSo 111 = .ok (.invokevirtual 313, 3) := by decide +kernel
theorem dX12_isSo_114 : decode cX12_isSo 114 = .ok (.istore 7, 2) := by decide +kernel
theorem dX12_isSo_116 : decode cX12_isSo 116 = .ok (.aload_n 0, 1) := by decide +kernel
theorem dX12_isSo_117 : decode cX12_isSo 117 = .ok (.getfield 76, 3) := by decide +kernel
theorem dX12_isSo_120 : decode cX12_isSo 120 = .ok (.iload_n 2, 1) := by decide +kernel
theorem dX12_isSo_121 : decode cX12_isSo 121 = .ok (.baload, 1) := by decide +kernel
theorem dX12_isSo_122 : decode cX12_isSo 122 = .ok (.ifCond .eq 22, 3) := by decide +kernel
theorem dX12_isSo_125 : decode cX12_isSo 125 = .ok (.iload 7, 2) := by decide +kernel
theorem dX12_isSo_127 : decode cX12_isSo 127 = .ok (.aload_n 0, 1) := by decide +kernel
theorem dX12_isSo_128 : decode cX12_isSo 128 = .ok (.getfield 73, 3) := by decide +kernel
theorem dX12_isSo_131 : decode cX12_isSo 131 = .ok (.iload_n 2, 1) := by decide +kernel
theorem dX12_isSo_132 : decode cX12_isSo 132 = .ok (.iaload, 1) := by decide +kernel
theorem dX12_isSo_133 : decode cX12_isSo 133 = .ok (.if_icmp .ge 7, 3) := by decide +kernel
theorem dX12_isSo_136 : decode cX12_isSo 136 = .ok (.iconst 1, 1) := by decide +kernel
theorem dX12_isSo_137 : decode cX12_isSo 137 = .ok (.goto 23, 3) := by decide +kernel
theorem dX12_isSo_140 : decode cX12_isSo 140 = .ok (.iconst 0, 1) := by decide +kernel
theorem dX12_isSo_141 : decode cX12_isSo 141 = .ok (.goto 19, 3) := by decide +kernel
theorem dX12_isSo_144 : decode cX12_isSo 144 = .ok (.iload 7, 2) := by decide +kernel
theorem dX12_isSo_146 : decode cX12_isSo 146 = .ok (.aload_n 0, 1) := by decide +kernel
theorem dX12_isSo_147 : decode cX12_isSo 147 = .ok (.getfield 73, 3) := by decide +kernel
theorem dX12_isSo_150 : decode cX12_isSo 150 = .ok (.iload_n 2, 1) := by decide +kernel
theorem dX12_isSo_151 : decode cX12_isSo 151 = .ok (.iaload, 1) := by decide +kernel
theorem dX12_isSo_152 : decode cX12_isSo 152 = .ok (.if_icmp .le 7, 3) := by decide +kernel
theorem dX12_isSo_155 : decode cX12_isSo 155 = .ok (.iconst 1, 1) := by decide +kernel
theorem dX12_isSo_156 : decode cX12_isSo 156 = .ok (.goto 4, 3) := by decide +kernel
theorem dX12_isSo_159 : decode cX12_isSo 159 = .ok (.iconst 0, 1) := by decide +kernel
theorem dX12_isSo_160 : decode cX12_isSo 160 = .ok (.ireturn, 1) := by decide +kernel
abbrev M_X12_isSo : MI := (RX12, cX12_isSo, 8, (some .boolean), ({ frames := 5, cells := 0, slots := 0, locals := 124 } : Room), 0, 0, false)
def f_X12_isSo_b116 (h : AH) (N : Nat) (x0 : Nat) (x2 : Int32) (x7 : Int32) : Option Int32 := (xgr h x0 13 24).bind fun v14 => (xba h v14 x2).bind fun v15 => (if v15 = 0 then (xgr h x0 13 23).bind fun v17 => (xia h v17 x2).bind fun v18 => (if x7 ≤ v18 then some 0 else some 1) else (xgr h x0 13 23).bind fun v20 => (xia h v20 x2).bind fun v21 => (if v21 ≤ x7 then some 0 else some 1))
def f_X12_isSo (h : AH) (N : Nat) (p0 : Nat) (p1 : Int32) (p2 : Int32) (p3 : Int32) (p4 : Int32) (p5 : Int32) (p6 : Int32) : Option Int32 := if kd h p0 = 13 + 1 then (xgr h p0 13 20).bind fun v1 => (xia h v1 p2).bind fun v2 => (if v2 = 8 then (f_X12_sumOf h N p0 p1 p2 p3 p4 p5).bind fun v4 => f_X12_isSo_b116 h N p0 p2 v4 else (if v2 = 9 then (f_X12_dryOf h N p0 p1 p2 p3 p4 p5 p6).bind fun v6 => f_X12_isSo_b116 h N p0 p2 v6 else (if v2 = 10 then (f_X12_greenOf h N p0 p1 p2 p3 p4 p5).bind fun v8 => (if v8 = (-1) then some 0 else f_X12_isSo_b116 h N p0 p2 v8) else (xgr h p0 13 21).bind fun v10 => (xia h v10 p2).bind fun v11 => (if (v11 + p5) < 12 then (f_X12_sumOf h N p0 p1 p2 p3 p4 p5).bind fun v13 => f_X12_isSo_b116 h N p0 p2 v13 else some 0)))) else none
theorem g_X12_isSo {h : AH} {N : Nat} {p0 : Nat} {p1 : Int32} {p2 : Int32} {p3 : Int32} {p4 : Int32} {p5 : Int32} {p6 : Int32} {x : Int32} (e : f_X12_isSo h N p0 p1 p2 p3 p4 p5 p6 = some x) : kd h p0 = 13 + 1 := by
  unfold f_X12_isSo at e
  by_cases hk : kd h p0 = 13 + 1
  · exact hk
  · rw [if_neg hk] at e
    cases e
theorem km_X12_isSo : KM yX12_isSo M_X12_isSo 6 := ⟨in_tb 1592 (by decide +kernel) rfl, in_tb 9 (by decide +kernel) rfl, by decide +kernel, rfl, rfl⟩
theorem hm_X12_isSo : M_X12_isSo.2.2.2.2.2.1 = 0 ∧ M_X12_isSo.2.2.2.2.2.2.1 = 0 := ⟨rfl, rfl⟩
section
variable {l : Launch} {g : GG}
set_option maxRecDepth 100000 in
set_option maxHeartbeats 4000000 in
theorem t_X12_isSo_b116 (h : AH) (N : Nat) (x0 : Nat) (x2 : Int32) (x7 : Int32) : AO l g M_X12_isSo false h 116 [(0, .ref x0), (2, .int x2), (7, .int x7)] [] h 0 0 (rPi h) (f_X12_isSo_b116 h N  x0 x2 x7) := by
  unfold f_X12_isSo_b116
  refine a_aload_n dX12_isSo_116 rfl 0 rfl ?_
  refine a_getr kc13 24 dX12_isSo_117 (by decide) rfl w_fieldLink_RainCoverModel_76 (fun v14 => ?_)
  refine a_iload_n dX12_isSo_120 rfl 1 rfl ?_
  refine a_bald dX12_isSo_121 (fun v15 => ?_)
  refine a_if_eq 144 dX12_isSo_122 (by decide) (fun c16 => ?_) (fun c16 => ?_)
  · refine a_iload dX12_isSo_144 2 rfl ?_
    refine a_aload_n dX12_isSo_146 rfl 0 rfl ?_
    refine a_getr kc13 23 dX12_isSo_147 (by decide) rfl w_fieldLink_RainCoverModel_73 (fun v17 => ?_)
    refine a_iload_n dX12_isSo_150 rfl 1 rfl ?_
    refine a_iald dX12_isSo_151 (fun v18 => ?_)
    refine a_icmp_le 159 dX12_isSo_152 (by decide) (fun c19 => ?_) (fun c19 => ?_)
    · refine a_iconst (v := 0) dX12_isSo_159 (by decide) ?_
      exact a_zret dX12_isSo_160 rfl (Or.inl rfl) rfl (by decide) (by decide)
    · refine a_iconst (v := 1) dX12_isSo_155 (by decide) ?_
      refine a_goto 160 dX12_isSo_156 (by decide) ?_
      exact a_zret dX12_isSo_160 rfl (Or.inr rfl) rfl (by decide) (by decide)
  · refine a_iload dX12_isSo_125 2 rfl ?_
    refine a_aload_n dX12_isSo_127 rfl 0 rfl ?_
    refine a_getr kc13 23 dX12_isSo_128 (by decide) rfl w_fieldLink_RainCoverModel_73 (fun v20 => ?_)
    refine a_iload_n dX12_isSo_131 rfl 1 rfl ?_
    refine a_iald dX12_isSo_132 (fun v21 => ?_)
    refine a_icmp_ge 140 dX12_isSo_133 (by decide) (fun c22 => ?_) (fun c22 => ?_)
    · refine a_iconst (v := 0) dX12_isSo_140 (by decide) ?_
      refine a_goto 160 dX12_isSo_141 (by decide) ?_
      exact a_zret dX12_isSo_160 rfl (Or.inl rfl) rfl (by decide) (by decide)
    · refine a_iconst (v := 1) dX12_isSo_136 (by decide) ?_
      refine a_goto 160 dX12_isSo_137 (by decide) ?_
      exact a_zret dX12_isSo_160 rfl (Or.inr rfl) rfl (by decide) (by decide)
end
set_option maxRecDepth 100000 in
set_option maxHeartbeats 4000000 in
theorem c_X12_isSo (l : Launch) (g : GG) (h : AH) (N : Nat) (p0 : Nat) (p1 : Int32) (p2 : Int32) (p3 : Int32) (p4 : Int32) (p5 : Int32) (p6 : Int32) : CN l g yX12_isSo M_X12_isSo false [.ref p0, .int p1, .int p2, .int p3, .int p4, .int p5, .int p6] h ((rPi h)) (f_X12_isSo h N p0 p1 p2 p3 p4 p5 p6) := by
  refine CN.of (by decide) rfl (fun hh => by first | rfl | cases hh) (Nat.le_of_ble_eq_true rfl) ?_
  unfold f_X12_isSo
  refine a_gd (fun hkd => ?_)
  refine a_aload_n dX12_isSo_0 rfl 0 rfl ?_
  refine a_getr kc13 20 dX12_isSo_1 (by decide) rfl w_fieldLink_RainCoverModel_64 (fun v1 => ?_)
  refine a_iload_n dX12_isSo_4 rfl 2 rfl ?_
  refine a_iald dX12_isSo_5 (fun v2 => ?_)
  refine a_swt (v := 8) 32 dX12_isSo_6 (by decide) (by decide) (fun c3 => ?_) (fun c3 => ?_)
  · refine a_aload_n dX12_isSo_32 rfl 0 rfl ?_
    refine a_iload_n dX12_isSo_33 rfl 1 rfl ?_
    refine a_iload_n dX12_isSo_34 rfl 2 rfl ?_
    refine a_iload_n dX12_isSo_35 rfl 3 rfl ?_
    refine a_iload dX12_isSo_36 4 rfl ?_
    refine a_iload dX12_isSo_38 5 rfl ?_
    refine a_cV_Pi (r := p0) (ci := 13) (as := [.int p1, .int p2, .int p3, .int p4, .int p5]) (st := []) dX12_isSo_40 (c_X12_sumOf l g h N p0 p1 p2 p3 p4 p5) rfl km_X12_sumOf (hm_X12_sumOf) rfl (by decide) rfl (fun _ ee => g_X12_sumOf ee) w_methodLink_RainCoverModel_313 w_instanceMethod_RainCoverModel_sumOf__IIIII_I w_selects_RainCoverModel_RainCoverModel_sumOf__IIIII_I_RainCoverModel_sumOf__IIIII_I ⟨⟨by decide, by decide⟩, ⟨by decide, by decide⟩⟩ (Nat.le_of_ble_eq_true rfl) (fun v4 => ?_)
    refine a_istore (lc2 := [(7, .int v4), (0, .ref p0), (1, .int p1), (2, .int p2), (3, .int p3), (4, .int p4), (5, .int p5), (6, .int p6)]) dX12_isSo_43 (by decide) rfl ?_
    refine a_goto 116 dX12_isSo_45 (by decide) ?_
    refine a_pick (lc2 := [(0, .ref p0), (2, .int p2), (7, .int v4)]) [1, 3, 0] rfl ?_
    exact t_X12_isSo_b116 h N p0 p2 v4
  refine a_swt (v := 9) 48 dX12_isSo_6 (by decide) (by decide) (fun c5 => ?_) (fun c5 => ?_)
  · refine a_aload_n dX12_isSo_48 rfl 0 rfl ?_
    refine a_iload_n dX12_isSo_49 rfl 1 rfl ?_
    refine a_iload_n dX12_isSo_50 rfl 2 rfl ?_
    refine a_iload_n dX12_isSo_51 rfl 3 rfl ?_
    refine a_iload dX12_isSo_52 4 rfl ?_
    refine a_iload dX12_isSo_54 5 rfl ?_
    refine a_iload dX12_isSo_56 6 rfl ?_
    refine a_cV_Pi (r := p0) (ci := 13) (as := [.int p1, .int p2, .int p3, .int p4, .int p5, .int p6]) (st := []) dX12_isSo_58 (c_X12_dryOf l g h N p0 p1 p2 p3 p4 p5 p6) rfl km_X12_dryOf (hm_X12_dryOf) rfl (by decide) rfl (fun _ ee => g_X12_dryOf ee) w_methodLink_RainCoverModel_317 w_instanceMethod_RainCoverModel_dryOf__IIIIII_I w_selects_RainCoverModel_RainCoverModel_dryOf__IIIIII_I_RainCoverModel_dryOf__IIIIII_I ⟨⟨by decide, by decide⟩, ⟨by decide, by decide⟩⟩ (Nat.le_of_ble_eq_true rfl) (fun v6 => ?_)
    refine a_istore (lc2 := [(7, .int v6), (0, .ref p0), (1, .int p1), (2, .int p2), (3, .int p3), (4, .int p4), (5, .int p5), (6, .int p6)]) dX12_isSo_61 (by decide) rfl ?_
    refine a_goto 116 dX12_isSo_63 (by decide) ?_
    refine a_pick (lc2 := [(0, .ref p0), (2, .int p2), (7, .int v6)]) [1, 3, 0] rfl ?_
    exact t_X12_isSo_b116 h N p0 p2 v6
  refine a_swt (v := 10) 66 dX12_isSo_6 (by decide) (by decide) (fun c7 => ?_) (fun c7 => ?_)
  · refine a_aload_n dX12_isSo_66 rfl 0 rfl ?_
    refine a_iload_n dX12_isSo_67 rfl 1 rfl ?_
    refine a_iload_n dX12_isSo_68 rfl 2 rfl ?_
    refine a_iload_n dX12_isSo_69 rfl 3 rfl ?_
    refine a_iload dX12_isSo_70 4 rfl ?_
    refine a_iload dX12_isSo_72 5 rfl ?_
    refine a_cV_Pi (r := p0) (ci := 13) (as := [.int p1, .int p2, .int p3, .int p4, .int p5]) (st := []) dX12_isSo_74 (c_X12_greenOf l g h N p0 p1 p2 p3 p4 p5) rfl km_X12_greenOf (hm_X12_greenOf) rfl (by decide) rfl (fun _ ee => g_X12_greenOf ee) w_methodLink_RainCoverModel_321 w_instanceMethod_RainCoverModel_greenOf__IIIII_I w_selects_RainCoverModel_RainCoverModel_greenOf__IIIII_I_RainCoverModel_greenOf__IIIII_I ⟨⟨by decide, by decide⟩, ⟨by decide, by decide⟩⟩ (Nat.le_of_ble_eq_true rfl) (fun v8 => ?_)
    refine a_istore (lc2 := [(7, .int v8), (0, .ref p0), (1, .int p1), (2, .int p2), (3, .int p3), (4, .int p4), (5, .int p5), (6, .int p6)]) dX12_isSo_77 (by decide) rfl ?_
    refine a_iload dX12_isSo_79 0 rfl ?_
    refine a_iconst (v := (-1)) dX12_isSo_81 (by decide) ?_
    refine a_icmp_ne 116 dX12_isSo_82 (by decide) (fun c9 => ?_) (fun c9 => ?_)
    · refine a_iconst (v := 0) dX12_isSo_85 (by decide) ?_
      exact a_zret dX12_isSo_86 rfl (Or.inl rfl) rfl (by decide) (by decide)
    · refine a_pick (lc2 := [(0, .ref p0), (2, .int p2), (7, .int v8)]) [1, 3, 0] rfl ?_
      exact t_X12_isSo_b116 h N p0 p2 v8
  refine a_swtd (vs := [8, 9, 10]) 87 dX12_isSo_6 (by decide) (by decide) (List.forall_mem_cons.mpr ⟨c3, List.forall_mem_cons.mpr ⟨c5, List.forall_mem_cons.mpr ⟨c7, fun _ hh => absurd hh List.not_mem_nil⟩⟩⟩) ?_
  refine a_aload_n dX12_isSo_87 rfl 0 rfl ?_
  refine a_getr kc13 21 dX12_isSo_88 (by decide) rfl w_fieldLink_RainCoverModel_67 (fun v10 => ?_)
  refine a_iload_n dX12_isSo_91 rfl 2 rfl ?_
  refine a_iald dX12_isSo_92 (fun v11 => ?_)
  refine a_iload dX12_isSo_93 5 rfl ?_
  refine a_iadd dX12_isSo_95 ?_
  refine a_bipush (v := 12) dX12_isSo_96 (by decide) ?_
  refine a_icmp_lt 103 dX12_isSo_98 (by decide) (fun c12 => ?_) (fun c12 => ?_)
  · refine a_aload_n dX12_isSo_103 rfl 0 rfl ?_
    refine a_iload_n dX12_isSo_104 rfl 1 rfl ?_
    refine a_iload_n dX12_isSo_105 rfl 2 rfl ?_
    refine a_iload_n dX12_isSo_106 rfl 3 rfl ?_
    refine a_iload dX12_isSo_107 4 rfl ?_
    refine a_iload dX12_isSo_109 5 rfl ?_
    refine a_cV_Pi (r := p0) (ci := 13) (as := [.int p1, .int p2, .int p3, .int p4, .int p5]) (st := []) dX12_isSo_111 (c_X12_sumOf l g h N p0 p1 p2 p3 p4 p5) rfl km_X12_sumOf (hm_X12_sumOf) rfl (by decide) rfl (fun _ ee => g_X12_sumOf ee) w_methodLink_RainCoverModel_313 w_instanceMethod_RainCoverModel_sumOf__IIIII_I w_selects_RainCoverModel_RainCoverModel_sumOf__IIIII_I_RainCoverModel_sumOf__IIIII_I ⟨⟨by decide, by decide⟩, ⟨by decide, by decide⟩⟩ (Nat.le_of_ble_eq_true rfl) (fun v13 => ?_)
    refine a_istore (lc2 := [(7, .int v13), (0, .ref p0), (1, .int p1), (2, .int p2), (3, .int p3), (4, .int p4), (5, .int p5), (6, .int p6)]) dX12_isSo_114 (by decide) rfl ?_
    refine a_pick (lc2 := [(0, .ref p0), (2, .int p2), (7, .int v13)]) [1, 3, 0] rfl ?_
    exact t_X12_isSo_b116 h N p0 p2 v13
  · refine a_iconst (v := 0) dX12_isSo_101 (by decide) ?_
    exact a_zret dX12_isSo_102 rfl (Or.inl rfl) rfl (by decide) (by decide)
theorem dX12_payOf_0 : decode cX12_payOf 0 = .ok (.aload_n 0, 1) := by decide +kernel
theorem dX12_payOf_1 : decode cX12_payOf 1 = .ok (.getfield 46, 3) := by decide +kernel
theorem dX12_payOf_4 : decode cX12_payOf 4 = .ok (.iload_n 2, 1) := by decide +kernel
theorem dX12_payOf_5 : decode cX12_payOf 5 = .ok (.baload, 1) := by decide +kernel
theorem dX12_payOf_6 : decode cX12_payOf 6 = .ok (.ifCond .eq 81, 3) := by decide +kernel
theorem dX12_payOf_9 : decode cX12_payOf 9 = .ok (.aload_n 0, 1) := by decide +kernel
theorem dX12_payOf_10 : decode cX12_payOf 10 = .ok (.iload_n 1, 1) := by decide +kernel
theorem dX12_payOf_11 : decode cX12_payOf 11 = .ok (.iconst 4, 1) := by decide +kernel
theorem dX12_payOf_12 : decode cX12_payOf 12 = .ok (.iload_n 2, 1) := by decide +kernel
theorem dX12_payOf_13 : decode cX12_payOf 13 = .ok (.imul, 1) := by decide +kernel
theorem dX12_payOf_14 : decode cX12_payOf 14 = .ok (.iload_n 3, 1) := by decide +kernel
theorem dX12_payOf_15 : decode cX12_payOf 15 = .ok (.iload 4, 2) := by decide +kernel
theorem dX12_payOf_17 : decode cX12_payOf 17 = .ok (.iload 5, 2) := by decide +kernel
theorem dX12_payOf_19 : decode cX12_payOf 19 = .ok (.invokevirtual 313, 3) := by decide +kernel
theorem dX12_payOf_22 : decode cX12_payOf 22 = .ok (.istore 7, 2) := by decide +kernel
theorem dX12_payOf_24 : decode cX12_payOf 24 = .ok (.iload 7, 2) := by decide +kernel
theorem dX12_payOf_26 : decode cX12_payOf 26 = .ok (.aload_n 0, 1) := by decide +kernel
theorem dX12_payOf_27 : decode cX12_payOf 27 = .ok (.getfield 55, 3) := by decide +kernel
theorem dX12_payOf_30 : decode cX12_payOf 30 = .ok (.iload_n 2, 1) := by decide +kernel
theorem dX12_payOf_31 : decode cX12_payOf 31 = .ok (.iaload, 1) := by decide +kernel
theorem dX12_payOf_32 : decode cX12_payOf 32 = .ok (.if_icmp .ge 29, 3) := by decide +kernel
theorem dX12_payOf_35 : decode cX12_payOf 35 = .ok (.aload_n 0, 1) := by decide +kernel
theorem dX12_payOf_36 : decode cX12_payOf 36 = .ok (.getfield 49, 3) := by decide +kernel
theorem dX12_payOf_39 : decode cX12_payOf 39 = .ok (.iload_n 2, 1) := by decide +kernel
theorem dX12_payOf_40 : decode cX12_payOf 40 = .ok (.iaload, 1) := by decide +kernel
theorem dX12_payOf_41 : decode cX12_payOf 41 = .ok (.aload_n 0, 1) := by decide +kernel
theorem dX12_payOf_42 : decode cX12_payOf 42 = .ok (.getfield 55, 3) := by decide +kernel
theorem dX12_payOf_45 : decode cX12_payOf 45 = .ok (.iload_n 2, 1) := by decide +kernel
theorem dX12_payOf_46 : decode cX12_payOf 46 = .ok (.iaload, 1) := by decide +kernel
theorem dX12_payOf_47 : decode cX12_payOf 47 = .ok (.iload 7, 2) := by decide +kernel
theorem dX12_payOf_49 : decode cX12_payOf 49 = .ok (.isub, 1) := by decide +kernel
theorem dX12_payOf_50 : decode cX12_payOf 50 = .ok (.aload_n 0, 1) := by decide +kernel
theorem dX12_payOf_51 : decode cX12_payOf 51 = .ok (.getfield 52, 3) := by decide +kernel
theorem dX12_payOf_54 : decode cX12_payOf 54 = .ok (.iload_n 2, 1) := by decide +kernel
theorem dX12_payOf_55 : decode cX12_payOf 55 = .ok (.iaload, 1) := by decide +kernel
theorem dX12_payOf_56 : decode cX12_payOf 56 = .ok (.idiv, 1) := by decide +kernel
theorem dX12_payOf_57 : decode cX12_payOf 57 = .ok (.imul, 1) := by decide +kernel
theorem dX12_payOf_58 : decode cX12_payOf 58 = .ok (.goto 4, 3) := by decide +kernel
theorem dX12_payOf_61 : decode cX12_payOf 61 = .ok (.iconst 0, 1) := by decide +kernel
theorem dX12_payOf_62 : decode cX12_payOf 62 = .ok (.istore 8, 2) := by decide +kernel
theorem dX12_payOf_64 : decode cX12_payOf 64 = .ok (.iload 8, 2) := by decide +kernel
theorem dX12_payOf_66 : decode cX12_payOf 66 = .ok (.aload_n 0, 1) := by decide +kernel
theorem dX12_payOf_67 : decode cX12_payOf 67 = .ok (.getfield 58, 3) := by decide +kernel
theorem dX12_payOf_70 : decode cX12_payOf 70 = .ok (.iload_n 2, 1) := by decide +kernel
theorem dX12_payOf_71 : decode cX12_payOf 71 = .ok (.iaload, 1) := by decide +kernel
theorem dX12_payOf_72 : decode cX12_payOf 72 = .ok (.if_icmp .ge 8, 3) := by decide +kernel
theorem dX12_payOf_75 : decode cX12_payOf 75 = .ok (.iload 8, 2) := by decide +kernel
theorem dX12_payOf_77 : decode cX12_payOf 77 = .ok (.goto 9, 3) := by decide +kernel
theorem dX12_payOf_80 : decode cX12_payOf 80 = .ok (.aload_n 0, 1) := by decide +kernel
theorem dX12_payOf_81 : decode cX12_payOf 81 = .ok (.getfield 58, 3) := by decide +kernel
theorem dX12_payOf_84 : decode cX12_payOf 84 = .ok (.iload_n 2, 1) := by decide +kernel
theorem dX12_payOf_85 : decode cX12_payOf 85 = .ok (.iaload, 1) := by decide +kernel
theorem dX12_payOf_86 : decode cX12_payOf 86 = .ok (.ireturn, 1) := by decide +kernel
theorem dX12_payOf_87 : decode cX12_payOf 87 = .ok (.iconst 1, 1) := by decide +kernel
theorem dX12_payOf_88 : decode cX12_payOf 88 = .ok (.istore 7, 2) := by decide +kernel
theorem dX12_payOf_90 : decode cX12_payOf 90 = .ok (.iconst 4, 1) := by decide +kernel
theorem dX12_payOf_91 : decode cX12_payOf 91 = .ok (.iload_n 2, 1) := by decide +kernel
theorem dX12_payOf_92 : decode cX12_payOf 92 = .ok (.imul, 1) := by decide +kernel
theorem dX12_payOf_93 : decode cX12_payOf 93 = .ok (.istore 8, 2) := by decide +kernel
theorem dX12_payOf_95 : decode cX12_payOf 95 = .ok (.iload 8, 2) := by decide +kernel
theorem dX12_payOf_97 : decode cX12_payOf 97 = .ok (.iconst 4, 1) := by decide +kernel
theorem dX12_payOf_98 : decode cX12_payOf 98 = .ok (.iload_n 2, 1) := by decide +kernel
theorem dX12_payOf_99 : decode cX12_payOf 99 = .ok (.imul, 1) := by decide +kernel
theorem dX12_payOf_100 : decode cX12_payOf 100 = .ok (.aload_n 0, 1) := by decide +kernel
theorem dX12_payOf_101 : decode cX12_payOf 101 = .ok (.getfield 61, 3) := by decide +kernel
theorem dX12_payOf_104 : decode cX12_payOf 104 = .ok (.iload_n 2, 1) := by decide +kernel
theorem dX12_payOf_105 : decode cX12_payOf 105 = .ok (.iaload, 1) := by decide +kernel
theorem dX12_payOf_106 : decode cX12_payOf 106 = .ok (.iadd, 1) := by decide +kernel
theorem dX12_payOf_107 : decode cX12_payOf 107 = .ok (.if_icmp .ge 30, 3) := by decide +kernel
theorem dX12_payOf_110 : decode cX12_payOf 110 = .ok (.iload 7, 2) := by decide +kernel
theorem dX12_payOf_112 : decode cX12_payOf 112 = .ok (.ifCond .eq 25, 3) := by decide +kernel
theorem dX12_payOf_115 : decode cX12_payOf 115 = .ok (.aload_n 0, 1) := by decide +kernel
theorem dX12_payOf_116 : decode cX12_payOf 116 = .ok (.iload_n 1, 1) := by decide +kernel
theorem dX12_payOf_117 : decode cX12_payOf 117 = .ok (.iload 8, 2) := by decide +kernel
theorem dX12_payOf_119 : decode cX12_payOf 119 = .ok (.iload_n 3, 1) := by decide +kernel
theorem dX12_payOf_120 : decode cX12_payOf 120 = .ok (.iload 4, 2) := by decide +kernel
theorem dX12_payOf_122 : decode cX12_payOf 122 = .ok (.iload 5, 2) := by decide +kernel
theorem dX12_payOf_124 : decode cX12_payOf 124 = .ok (.iload 6, 2) := by decide +kernel
theorem dX12_payOf_126 : decode cX12_payOf 126 = .ok (.invokevirtual 324, 3) := by decide +kernel
theorem dX12_payOf_129 : decode cX12_payOf 129 = .ok (.istore 7, 2) := by decide +kernel
theorem dX12_payOf_131 : decode cX12_payOf 131 = .ok (.iinc 8 1, 3) := by decide +kernel
theorem dX12_payOf_134 : decode cX12_payOf 134 = .ok (.goto (-39), 3) := by decide +kernel
theorem dX12_payOf_137 : decode cX12_payOf 137 = .ok (.iload 7, 2) := by decide +kernel
theorem dX12_payOf_139 : decode cX12_payOf 139 = .ok (.ifCond .eq 12, 3) := by decide +kernel
theorem dX12_payOf_142 : decode cX12_payOf 142 = .ok (.aload_n 0, 1) := by decide +kernel
theorem dX12_payOf_143 : decode cX12_payOf 143 = .ok (.getfield 49, 3) := by decide +kernel
theorem dX12_payOf_146 : decode cX12_payOf 146 = .ok (.iload_n 2, 1) := by decide +kernel
theorem dX12_payOf_147 : decode cX12_payOf 147 = .ok (.iaload, 1) := by decide +kernel
theorem dX12_payOf_148 : decode cX12_payOf 148 = .ok (.goto 4, 3) := by decide +kernel
theorem dX12_payOf_151 : decode cX12_payOf 151 = .ok (.iconst 0, 1) := by decide +kernel
theorem dX12_payOf_152 : decode cX12_payOf 152 = .ok (.ireturn, 1) := by decide +kernel
abbrev M_X12_payOf : MI := (RX12, cX12_payOf, 9, (some .int), ({ frames := 6, cells := 0, slots := 0, locals := 151 } : Room), 0, 0, false)
def f_X12_payOf_b62 (h : AH) (N : Nat) (x0 : Nat) (x2 : Int32) (s2 : Int32) : Option Int32 := (xgr h x0 13 18).bind fun v15 => (xia h v15 x2).bind fun v16 => (if v16 ≤ s2 then (xgr h x0 13 18).bind fun v18 => (xia h v18 x2).bind fun v19 => some v19 else some s2)
def f_X12_payOf_b137 (h : AH) (N : Nat) (x0 : Nat) (x2 : Int32) (x7 : Int32) : Option Int32 := (if x7 = 0 then some 0 else (xgr h x0 13 15).bind fun v26 => (xia h v26 x2).bind fun v27 => some v27)
def f_X12_payOf_b95_body (h : AH) (N : Nat) (K95 : Nat → Int32 → Int32 → Int32 → Int32 → Int32 → Int32 → Int32 → Int32 → Option Int32) (x0 : Nat) (x1 : Int32) (x2 : Int32) (x3 : Int32) (x4 : Int32) (x5 : Int32) (x6 : Int32) (x7 : Int32) (x8 : Int32) : Option Int32 := (xgr h x0 13 19).bind fun v20 => (xia h v20 x2).bind fun v21 => (if ((4 * x2) + v21) ≤ x8 then f_X12_payOf_b137 h N x0 x2 x7 else (if x7 = 0 then f_X12_payOf_b137 h N x0 x2 x7 else (f_X12_isSo h N x0 x1 x8 x3 x4 x5 x6).bind fun v24 => K95 x0 x1 x2 x3 x4 x5 x6 v24 (x8 + 1)))
def f_X12_payOf_b95 (h : AH) (N : Nat) : Nat → Nat → Int32 → Int32 → Int32 → Int32 → Int32 → Int32 → Int32 → Int32 → Option Int32
  | 0, _, _, _, _, _, _, _, _, _ => none
  | n + 1, x0, x1, x2, x3, x4, x5, x6, x7, x8 => f_X12_payOf_b95_body h N  (f_X12_payOf_b95 h N  n) x0 x1 x2 x3 x4 x5 x6 x7 x8
def f_X12_payOf (h : AH) (N : Nat) (p0 : Nat) (p1 : Int32) (p2 : Int32) (p3 : Int32) (p4 : Int32) (p5 : Int32) (p6 : Int32) : Option Int32 := if kd h p0 = 13 + 1 then (xgr h p0 13 14).bind fun v1 => (xba h v1 p2).bind fun v2 => (if v2 = 0 then f_X12_payOf_b95 h N N p0 p1 p2 p3 p4 p5 p6 1 (4 * p2) else (f_X12_sumOf h N p0 p1 (4 * p2) p3 p4 p5).bind fun v4 => (xgr h p0 13 17).bind fun v5 => (xia h v5 p2).bind fun v6 => (if v6 ≤ v4 then f_X12_payOf_b62 h N p0 p2 0 else (xgr h p0 13 15).bind fun v8 => (xia h v8 p2).bind fun v9 => (xgr h p0 13 17).bind fun v10 => (xia h v10 p2).bind fun v11 => (xgr h p0 13 16).bind fun v12 => (xia h v12 p2).bind fun v13 => (if v13 = 0 then none else f_X12_payOf_b62 h N p0 p2 (v9 * ((v11 - v4) / v13))))) else none
theorem g_X12_payOf {h : AH} {N : Nat} {p0 : Nat} {p1 : Int32} {p2 : Int32} {p3 : Int32} {p4 : Int32} {p5 : Int32} {p6 : Int32} {x : Int32} (e : f_X12_payOf h N p0 p1 p2 p3 p4 p5 p6 = some x) : kd h p0 = 13 + 1 := by
  unfold f_X12_payOf at e
  by_cases hk : kd h p0 = 13 + 1
  · exact hk
  · rw [if_neg hk] at e
    cases e
theorem km_X12_payOf : KM yX12_payOf M_X12_payOf 6 := ⟨in_tb 1580 (by decide +kernel) rfl, in_tb 9 (by decide +kernel) rfl, by decide +kernel, rfl, rfl⟩
theorem hm_X12_payOf : M_X12_payOf.2.2.2.2.2.1 = 0 ∧ M_X12_payOf.2.2.2.2.2.2.1 = 0 := ⟨rfl, rfl⟩
section
variable {l : Launch} {g : GG}
set_option maxRecDepth 100000 in
set_option maxHeartbeats 4000000 in
theorem t_X12_payOf_b62 (h : AH) (N : Nat) (x0 : Nat) (x2 : Int32) (s2 : Int32) : AO l g M_X12_payOf false h 62 [(0, .ref x0), (2, .int x2)] [.int s2] h 0 0 (rPi h) (f_X12_payOf_b62 h N  x0 x2 s2) := by
  unfold f_X12_payOf_b62
  refine a_istore (lc2 := [(8, .int s2), (0, .ref x0), (2, .int x2)]) dX12_payOf_62 (by decide) rfl ?_
  refine a_iload dX12_payOf_64 0 rfl ?_
  refine a_aload_n dX12_payOf_66 rfl 1 rfl ?_
  refine a_getr kc13 18 dX12_payOf_67 (by decide) rfl w_fieldLink_RainCoverModel_58 (fun v15 => ?_)
  refine a_iload_n dX12_payOf_70 rfl 2 rfl ?_
  refine a_iald dX12_payOf_71 (fun v16 => ?_)
  refine a_icmp_ge 80 dX12_payOf_72 (by decide) (fun c17 => ?_) (fun c17 => ?_)
  · refine a_aload_n dX12_payOf_80 rfl 1 rfl ?_
    refine a_getr kc13 18 dX12_payOf_81 (by decide) rfl w_fieldLink_RainCoverModel_58 (fun v18 => ?_)
    refine a_iload_n dX12_payOf_84 rfl 2 rfl ?_
    refine a_iald dX12_payOf_85 (fun v19 => ?_)
    exact a_iret dX12_payOf_86 rfl rfl (by decide) (by decide)
  · refine a_iload dX12_payOf_75 0 rfl ?_
    refine a_goto 86 dX12_payOf_77 (by decide) ?_
    exact a_iret dX12_payOf_86 rfl rfl (by decide) (by decide)
set_option maxRecDepth 100000 in
set_option maxHeartbeats 4000000 in
theorem t_X12_payOf_b137 (h : AH) (N : Nat) (x0 : Nat) (x2 : Int32) (x7 : Int32) : AO l g M_X12_payOf false h 137 [(0, .ref x0), (2, .int x2), (7, .int x7)] [] h 0 0 (rPi h) (f_X12_payOf_b137 h N  x0 x2 x7) := by
  unfold f_X12_payOf_b137
  refine a_iload dX12_payOf_137 2 rfl ?_
  refine a_if_eq 151 dX12_payOf_139 (by decide) (fun c25 => ?_) (fun c25 => ?_)
  · refine a_iconst (v := 0) dX12_payOf_151 (by decide) ?_
    exact a_iret dX12_payOf_152 rfl rfl (by decide) (by decide)
  · refine a_aload_n dX12_payOf_142 rfl 0 rfl ?_
    refine a_getr kc13 15 dX12_payOf_143 (by decide) rfl w_fieldLink_RainCoverModel_49 (fun v26 => ?_)
    refine a_iload_n dX12_payOf_146 rfl 1 rfl ?_
    refine a_iald dX12_payOf_147 (fun v27 => ?_)
    refine a_goto 152 dX12_payOf_148 (by decide) ?_
    exact a_iret dX12_payOf_152 rfl rfl (by decide) (by decide)
set_option maxRecDepth 100000 in
set_option maxHeartbeats 4000000 in
theorem t_X12_payOf_b95_body (h : AH) (N : Nat) (K95 : Nat → Int32 → Int32 → Int32 → Int32 → Int32 → Int32 → Int32 → Int32 → Option Int32) (hK95 : ∀ (z0 : Nat) (z1 : Int32) (z2 : Int32) (z3 : Int32) (z4 : Int32) (z5 : Int32) (z6 : Int32) (z7 : Int32) (z8 : Int32), AO l g M_X12_payOf false h 95 [(0, .ref z0), (1, .int z1), (2, .int z2), (3, .int z3), (4, .int z4), (5, .int z5), (6, .int z6), (7, .int z7), (8, .int z8)] [] h 0 0 (rPi h) (K95 z0 z1 z2 z3 z4 z5 z6 z7 z8)) (x0 : Nat) (x1 : Int32) (x2 : Int32) (x3 : Int32) (x4 : Int32) (x5 : Int32) (x6 : Int32) (x7 : Int32) (x8 : Int32) : AO l g M_X12_payOf false h 95 [(0, .ref x0), (1, .int x1), (2, .int x2), (3, .int x3), (4, .int x4), (5, .int x5), (6, .int x6), (7, .int x7), (8, .int x8)] [] h 0 0 (rPi h) (f_X12_payOf_b95_body h N K95 x0 x1 x2 x3 x4 x5 x6 x7 x8) := by
  unfold f_X12_payOf_b95_body
  refine a_iload dX12_payOf_95 8 rfl ?_
  refine a_iconst (v := 4) dX12_payOf_97 (by decide) ?_
  refine a_iload_n dX12_payOf_98 rfl 2 rfl ?_
  refine a_imul dX12_payOf_99 ?_
  refine a_aload_n dX12_payOf_100 rfl 0 rfl ?_
  refine a_getr kc13 19 dX12_payOf_101 (by decide) rfl w_fieldLink_RainCoverModel_61 (fun v20 => ?_)
  refine a_iload_n dX12_payOf_104 rfl 2 rfl ?_
  refine a_iald dX12_payOf_105 (fun v21 => ?_)
  refine a_iadd dX12_payOf_106 ?_
  refine a_icmp_ge 137 dX12_payOf_107 (by decide) (fun c22 => ?_) (fun c22 => ?_)
  · refine a_pick (lc2 := [(0, .ref x0), (2, .int x2), (7, .int x7)]) [0, 2, 7] rfl ?_
    exact t_X12_payOf_b137 h N x0 x2 x7
  · refine a_iload dX12_payOf_110 7 rfl ?_
    refine a_if_eq 137 dX12_payOf_112 (by decide) (fun c23 => ?_) (fun c23 => ?_)
    · refine a_pick (lc2 := [(0, .ref x0), (2, .int x2), (7, .int x7)]) [0, 2, 7] rfl ?_
      exact t_X12_payOf_b137 h N x0 x2 x7
    · refine a_aload_n dX12_payOf_115 rfl 0 rfl ?_
      refine a_iload_n dX12_payOf_116 rfl 1 rfl ?_
      refine a_iload dX12_payOf_117 8 rfl ?_
      refine a_iload_n dX12_payOf_119 rfl 3 rfl ?_
      refine a_iload dX12_payOf_120 4 rfl ?_
      refine a_iload dX12_payOf_122 5 rfl ?_
      refine a_iload dX12_payOf_124 6 rfl ?_
      refine a_cV_Pi (r := x0) (ci := 13) (as := [.int x1, .int x8, .int x3, .int x4, .int x5, .int x6]) (st := []) dX12_payOf_126 (c_X12_isSo l g h N x0 x1 x8 x3 x4 x5 x6) rfl km_X12_isSo (hm_X12_isSo) rfl (by decide) rfl (fun _ ee => g_X12_isSo ee) w_methodLink_RainCoverModel_324 w_instanceMethod_RainCoverModel_isSo__IIIIII_Z w_selects_RainCoverModel_RainCoverModel_isSo__IIIIII_Z_RainCoverModel_isSo__IIIIII_Z ⟨⟨by decide, by decide⟩, ⟨by decide, by decide⟩⟩ (Nat.le_of_ble_eq_true rfl) (fun v24 => ?_)
      refine a_istore (lc2 := [(7, .int v24), (0, .ref x0), (1, .int x1), (2, .int x2), (3, .int x3), (4, .int x4), (5, .int x5), (6, .int x6), (8, .int x8)]) dX12_payOf_129 (by decide) rfl ?_
      refine a_iinc (q := 8) (v := (x8 + 1)) (lc2 := [(8, .int (x8 + 1)), (7, .int v24), (0, .ref x0), (1, .int x1), (2, .int x2), (3, .int x3), (4, .int x4), (5, .int x5), (6, .int x6)]) dX12_payOf_131 rfl rfl (by decide) rfl ?_
      refine a_goto 95 dX12_payOf_134 (by decide) ?_
      refine a_pick (lc2 := [(0, .ref x0), (1, .int x1), (2, .int x2), (3, .int x3), (4, .int x4), (5, .int x5), (6, .int x6), (7, .int v24), (8, .int (x8 + 1))]) [2, 3, 4, 5, 6, 7, 8, 1, 0] rfl ?_
      exact hK95 x0 x1 x2 x3 x4 x5 x6 v24 (x8 + 1)
set_option maxRecDepth 100000 in
set_option maxHeartbeats 4000000 in
theorem t_X12_payOf_b95 (h : AH) (N : Nat) : ∀ (n : Nat) (x0 : Nat) (x1 : Int32) (x2 : Int32) (x3 : Int32) (x4 : Int32) (x5 : Int32) (x6 : Int32) (x7 : Int32) (x8 : Int32) , AO l g M_X12_payOf false h 95 [(0, .ref x0), (1, .int x1), (2, .int x2), (3, .int x3), (4, .int x4), (5, .int x5), (6, .int x6), (7, .int x7), (8, .int x8)] [] h 0 0 (rPi h) (f_X12_payOf_b95 h N  n x0 x1 x2 x3 x4 x5 x6 x7 x8) := by
  intro n
  induction n with
  | zero => intro x0 x1 x2 x3 x4 x5 x6 x7 x8; exact a_eq rfl a_none
  | succ n ih => intro x0 x1 x2 x3 x4 x5 x6 x7 x8; exact a_eq rfl (t_X12_payOf_b95_body h N  (f_X12_payOf_b95 h N  n) ih x0 x1 x2 x3 x4 x5 x6 x7 x8)
end
set_option maxRecDepth 100000 in
set_option maxHeartbeats 4000000 in
theorem c_X12_payOf (l : Launch) (g : GG) (h : AH) (N : Nat) (p0 : Nat) (p1 : Int32) (p2 : Int32) (p3 : Int32) (p4 : Int32) (p5 : Int32) (p6 : Int32) : CN l g yX12_payOf M_X12_payOf false [.ref p0, .int p1, .int p2, .int p3, .int p4, .int p5, .int p6] h ((rPi h)) (f_X12_payOf h N p0 p1 p2 p3 p4 p5 p6) := by
  refine CN.of (by decide) rfl (fun hh => by first | rfl | cases hh) (Nat.le_of_ble_eq_true rfl) ?_
  unfold f_X12_payOf
  refine a_gd (fun hkd => ?_)
  refine a_aload_n dX12_payOf_0 rfl 0 rfl ?_
  refine a_getr kc13 14 dX12_payOf_1 (by decide) rfl w_fieldLink_RainCoverModel_46 (fun v1 => ?_)
  refine a_iload_n dX12_payOf_4 rfl 2 rfl ?_
  refine a_bald dX12_payOf_5 (fun v2 => ?_)
  refine a_if_eq 87 dX12_payOf_6 (by decide) (fun c3 => ?_) (fun c3 => ?_)
  · refine a_iconst (v := 1) dX12_payOf_87 (by decide) ?_
    refine a_istore (lc2 := [(7, .int 1), (0, .ref p0), (1, .int p1), (2, .int p2), (3, .int p3), (4, .int p4), (5, .int p5), (6, .int p6)]) dX12_payOf_88 (by decide) rfl ?_
    refine a_iconst (v := 4) dX12_payOf_90 (by decide) ?_
    refine a_iload_n dX12_payOf_91 rfl 3 rfl ?_
    refine a_imul dX12_payOf_92 ?_
    refine a_istore (lc2 := [(8, .int (4 * p2)), (7, .int 1), (0, .ref p0), (1, .int p1), (2, .int p2), (3, .int p3), (4, .int p4), (5, .int p5), (6, .int p6)]) dX12_payOf_93 (by decide) rfl ?_
    refine a_pick (lc2 := [(0, .ref p0), (1, .int p1), (2, .int p2), (3, .int p3), (4, .int p4), (5, .int p5), (6, .int p6), (7, .int 1), (8, .int (4 * p2))]) [2, 3, 4, 5, 6, 7, 8, 1, 0] rfl ?_
    exact t_X12_payOf_b95 h N N p0 p1 p2 p3 p4 p5 p6 1 (4 * p2)
  · refine a_aload_n dX12_payOf_9 rfl 0 rfl ?_
    refine a_iload_n dX12_payOf_10 rfl 1 rfl ?_
    refine a_iconst (v := 4) dX12_payOf_11 (by decide) ?_
    refine a_iload_n dX12_payOf_12 rfl 2 rfl ?_
    refine a_imul dX12_payOf_13 ?_
    refine a_iload_n dX12_payOf_14 rfl 3 rfl ?_
    refine a_iload dX12_payOf_15 4 rfl ?_
    refine a_iload dX12_payOf_17 5 rfl ?_
    refine a_cV_Pi (r := p0) (ci := 13) (as := [.int p1, .int (4 * p2), .int p3, .int p4, .int p5]) (st := []) dX12_payOf_19 (c_X12_sumOf l g h N p0 p1 (4 * p2) p3 p4 p5) rfl km_X12_sumOf (hm_X12_sumOf) rfl (by decide) rfl (fun _ ee => g_X12_sumOf ee) w_methodLink_RainCoverModel_313 w_instanceMethod_RainCoverModel_sumOf__IIIII_I w_selects_RainCoverModel_RainCoverModel_sumOf__IIIII_I_RainCoverModel_sumOf__IIIII_I ⟨⟨by decide, by decide⟩, ⟨by decide, by decide⟩⟩ (Nat.le_of_ble_eq_true rfl) (fun v4 => ?_)
    refine a_istore (lc2 := [(7, .int v4), (0, .ref p0), (1, .int p1), (2, .int p2), (3, .int p3), (4, .int p4), (5, .int p5), (6, .int p6)]) dX12_payOf_22 (by decide) rfl ?_
    refine a_iload dX12_payOf_24 0 rfl ?_
    refine a_aload_n dX12_payOf_26 rfl 1 rfl ?_
    refine a_getr kc13 17 dX12_payOf_27 (by decide) rfl w_fieldLink_RainCoverModel_55 (fun v5 => ?_)
    refine a_iload_n dX12_payOf_30 rfl 3 rfl ?_
    refine a_iald dX12_payOf_31 (fun v6 => ?_)
    refine a_icmp_ge 61 dX12_payOf_32 (by decide) (fun c7 => ?_) (fun c7 => ?_)
    · refine a_iconst (v := 0) dX12_payOf_61 (by decide) ?_
      refine a_pick (lc2 := [(0, .ref p0), (2, .int p2)]) [1, 3] rfl ?_
      exact t_X12_payOf_b62 h N p0 p2 0
    · refine a_aload_n dX12_payOf_35 rfl 1 rfl ?_
      refine a_getr kc13 15 dX12_payOf_36 (by decide) rfl w_fieldLink_RainCoverModel_49 (fun v8 => ?_)
      refine a_iload_n dX12_payOf_39 rfl 3 rfl ?_
      refine a_iald dX12_payOf_40 (fun v9 => ?_)
      refine a_aload_n dX12_payOf_41 rfl 1 rfl ?_
      refine a_getr kc13 17 dX12_payOf_42 (by decide) rfl w_fieldLink_RainCoverModel_55 (fun v10 => ?_)
      refine a_iload_n dX12_payOf_45 rfl 3 rfl ?_
      refine a_iald dX12_payOf_46 (fun v11 => ?_)
      refine a_iload dX12_payOf_47 0 rfl ?_
      refine a_isub dX12_payOf_49 ?_
      refine a_aload_n dX12_payOf_50 rfl 1 rfl ?_
      refine a_getr kc13 16 dX12_payOf_51 (by decide) rfl w_fieldLink_RainCoverModel_52 (fun v12 => ?_)
      refine a_iload_n dX12_payOf_54 rfl 3 rfl ?_
      refine a_iald dX12_payOf_55 (fun v13 => ?_)
      refine a_idiv dX12_payOf_56 (fun c14 => ?_)
      refine a_imul dX12_payOf_57 ?_
      refine a_goto 62 dX12_payOf_58 (by decide) ?_
      refine a_pick (lc2 := [(0, .ref p0), (2, .int p2)]) [1, 3] rfl ?_
      exact t_X12_payOf_b62 h N p0 p2 (v9 * ((v11 - v4) / v13))
theorem dX12_pay_0 : decode cX12_pay 0 = .ok (.aload_n 0, 1) := by decide +kernel
theorem dX12_pay_1 : decode cX12_pay 1 = .ok (.iload_n 1, 1) := by decide +kernel
theorem dX12_pay_2 : decode cX12_pay 2 = .ok (.invokevirtual 328, 3) := by decide +kernel
theorem dX12_pay_5 : decode cX12_pay 5 = .ok (.ifCond .eq 18, 3) := by decide +kernel
theorem dX12_pay_8 : decode cX12_pay 8 = .ok (.aload_n 0, 1) := by decide +kernel
theorem dX12_pay_9 : decode cX12_pay 9 = .ok (.iload_n 2, 1) := by decide +kernel
theorem dX12_pay_10 : decode cX12_pay 10 = .ok (.invokevirtual 225, 3) := by decide +kernel
theorem dX12_pay_13 : decode cX12_pay 13 = .ok (.ifCond .eq 10, 3) := by decide +kernel
theorem dX12_pay_16 : decode cX12_pay 16 = .ok (.iload_n 3, 1) := by decide +kernel
theorem dX12_pay_17 : decode cX12_pay 17 = .ok (.invokestatic 221, 3) := by decide +kernel
theorem dX12_pay_20 : decode cX12_pay 20 = .ok (.ifCond .ne 5, 3) := by decide +kernel
theorem dX12_pay_23 : decode cX12_pay 23 = .ok (.iconst (-1), 1) := by decide +kernel
theorem dX12_pay_24 : decode cX12_pay 24 = .ok (.ireturn, 1) := by decide +kernel
theorem dX12_pay_25 : decode cX12_pay 25 = .ok (.iload 4, 2) := by decide +kernel
theorem dX12_pay_27 : decode cX12_pay 27 = .ok (.iconst 0, 1) := by decide +kernel
theorem dX12_pay_28 : decode cX12_pay 28 = .ok (.iconst 5, 1) := by decide +kernel
theorem dX12_pay_29 : decode cX12_pay 29 = .ok (.invokestatic 204, 3) := by decide +kernel
theorem dX12_pay_32 : decode cX12_pay 32 = .ok (.ifCond .eq 28, 3) := by decide +kernel
theorem dX12_pay_35 : decode cX12_pay 35 = .ok (.iload 5, 2) := by decide +kernel
theorem dX12_pay_37 : decode cX12_pay 37 = .ok (.iconst 0, 1) := by decide +kernel
theorem dX12_pay_38 : decode cX12_pay 38 = .ok (.iconst 3, 1) := by decide +kernel
theorem dX12_pay_39 : decode cX12_pay 39 = .ok (.invokestatic 204, 3) := by decide +kernel
theorem dX12_pay_42 : decode cX12_pay 42 = .ok (.ifCond .eq 18, 3) := by decide +kernel
theorem dX12_pay_45 : decode cX12_pay 45 = .ok (.aload_n 0, 1) := by decide +kernel
theorem dX12_pay_46 : decode cX12_pay 46 = .ok (.iconst 0, 1) := by decide +kernel
theorem dX12_pay_47 : decode cX12_pay 47 = .ok (.iload_n 1, 1) := by decide +kernel
theorem dX12_pay_48 : decode cX12_pay 48 = .ok (.iload_n 2, 1) := by decide +kernel
theorem dX12_pay_49 : decode cX12_pay 49 = .ok (.iload_n 3, 1) := by decide +kernel
theorem dX12_pay_50 : decode cX12_pay 50 = .ok (.iload 4, 2) := by decide +kernel
theorem dX12_pay_52 : decode cX12_pay 52 = .ok (.iload 5, 2) := by decide +kernel
theorem dX12_pay_54 : decode cX12_pay 54 = .ok (.invokevirtual 331, 3) := by decide +kernel
theorem dX12_pay_57 : decode cX12_pay 57 = .ok (.goto 5, 3) := by decide +kernel
theorem dX12_pay_60 : decode cX12_pay 60 = .ok (.bipush (-2), 2) := by decide +kernel
theorem dX12_pay_62 : decode cX12_pay 62 = .ok (.ireturn, 1) := by decide +kernel
abbrev M_X12_pay : MI := (RX12, cX12_pay, 6, (some .int), ({ frames := 7, cells := 0, slots := 0, locals := 179 } : Room), 0, 0, false)
def f_X12_pay (h : AH) (N : Nat) (p0 : Nat) (p1 : Int32) (p2 : Int32) (p3 : Int32) (p4 : Int32) (p5 : Int32) : Option Int32 := if kd h p0 = 13 + 1 then (f_X12_isTerm h p0 p1).bind fun v1 => (if v1 = 0 then some (-1) else (f_X12_isGauge h p0 p2).bind fun v3 => (if v3 = 0 then some (-1) else (f_X12_isSeason h p3).bind fun v5 => (if v5 = 0 then some (-1) else (f_X12_in h p4 0 5).bind fun v7 => (if v7 = 0 then some (-2) else (f_X12_in h p5 0 3).bind fun v9 => (if v9 = 0 then some (-2) else (f_X12_payOf h N p0 0 p1 p2 p3 p4 p5).bind fun v11 => some v11))))) else none
theorem g_X12_pay {h : AH} {N : Nat} {p0 : Nat} {p1 : Int32} {p2 : Int32} {p3 : Int32} {p4 : Int32} {p5 : Int32} {x : Int32} (e : f_X12_pay h N p0 p1 p2 p3 p4 p5 = some x) : kd h p0 = 13 + 1 := by
  unfold f_X12_pay at e
  by_cases hk : kd h p0 = 13 + 1
  · exact hk
  · rw [if_neg hk] at e
    cases e
theorem km_X12_pay : KM yX12_pay M_X12_pay 5 := ⟨in_tb 1572 (by decide +kernel) rfl, in_tb 9 (by decide +kernel) rfl, by decide +kernel, rfl, rfl⟩
theorem hm_X12_pay : M_X12_pay.2.2.2.2.2.1 = 0 ∧ M_X12_pay.2.2.2.2.2.2.1 = 0 := ⟨rfl, rfl⟩
section
variable {l : Launch} {g : GG}
end
set_option maxRecDepth 100000 in
set_option maxHeartbeats 4000000 in
theorem c_X12_pay (l : Launch) (g : GG) (h : AH) (N : Nat) (p0 : Nat) (p1 : Int32) (p2 : Int32) (p3 : Int32) (p4 : Int32) (p5 : Int32) : CN l g yX12_pay M_X12_pay false [.ref p0, .int p1, .int p2, .int p3, .int p4, .int p5] h ((rPi h)) (f_X12_pay h N p0 p1 p2 p3 p4 p5) := by
  refine CN.of (by decide) rfl (fun hh => by first | rfl | cases hh) (Nat.le_of_ble_eq_true rfl) ?_
  unfold f_X12_pay
  refine a_gd (fun hkd => ?_)
  refine a_aload_n dX12_pay_0 rfl 0 rfl ?_
  refine a_iload_n dX12_pay_1 rfl 1 rfl ?_
  refine a_cV_Pi (r := p0) (ci := 13) (as := [.int p1]) (st := []) dX12_pay_2 (c_X12_isTerm l g h p0 p1) rfl km_X12_isTerm (hm_X12_isTerm) rfl (by decide) rfl (fun _ ee => g_X12_isTerm ee) w_methodLink_RainCoverModel_328 w_instanceMethod_RainCoverModel_isTerm__I_Z w_selects_RainCoverModel_RainCoverModel_isTerm__I_Z_RainCoverModel_isTerm__I_Z ⟨⟨by decide, by decide⟩, ⟨by decide, by decide⟩⟩ (Nat.le_of_ble_eq_true rfl) (fun v1 => ?_)
  refine a_if_eq 23 dX12_pay_5 (by decide) (fun c2 => ?_) (fun c2 => ?_)
  · refine a_iconst (v := (-1)) dX12_pay_23 (by decide) ?_
    exact a_iret dX12_pay_24 rfl rfl (by decide) (by decide)
  · refine a_aload_n dX12_pay_8 rfl 0 rfl ?_
    refine a_iload_n dX12_pay_9 rfl 2 rfl ?_
    refine a_cV_Pi (r := p0) (ci := 13) (as := [.int p2]) (st := []) dX12_pay_10 (c_X12_isGauge l g h p0 p2) rfl km_X12_isGauge (hm_X12_isGauge) rfl (by decide) rfl (fun _ ee => g_X12_isGauge ee) w_methodLink_RainCoverModel_225 w_instanceMethod_RainCoverModel_isGauge__I_Z w_selects_RainCoverModel_RainCoverModel_isGauge__I_Z_RainCoverModel_isGauge__I_Z ⟨⟨by decide, by decide⟩, ⟨by decide, by decide⟩⟩ (Nat.le_of_ble_eq_true rfl) (fun v3 => ?_)
    refine a_if_eq 23 dX12_pay_13 (by decide) (fun c4 => ?_) (fun c4 => ?_)
    · refine a_iconst (v := (-1)) dX12_pay_23 (by decide) ?_
      exact a_iret dX12_pay_24 rfl rfl (by decide) (by decide)
    · refine a_iload_n dX12_pay_16 rfl 3 rfl ?_
      refine a_cS_Pi (as := [.int p3]) (st := []) dX12_pay_17 (c_X12_isSeason l g h p3) rfl km_X12_isSeason (hm_X12_isSeason) w_methodLink_RainCoverModel_221 w_static_RainCoverModel_isSeason__I_Z ⟨⟨by decide, by decide⟩, ⟨by decide, by decide⟩⟩ (Nat.le_of_ble_eq_true rfl) (fun v5 => ?_)
      refine a_if_ne 25 dX12_pay_20 (by decide) (fun c6 => ?_) (fun c6 => ?_)
      · refine a_iconst (v := (-1)) dX12_pay_23 (by decide) ?_
        exact a_iret dX12_pay_24 rfl rfl (by decide) (by decide)
      · refine a_iload dX12_pay_25 4 rfl ?_
        refine a_iconst (v := 0) dX12_pay_27 (by decide) ?_
        refine a_iconst (v := 5) dX12_pay_28 (by decide) ?_
        refine a_cS_Pi (as := [.int p4, .int 0, .int 5]) (st := []) dX12_pay_29 (c_X12_in l g h p4 0 5) rfl km_X12_in (hm_X12_in) w_methodLink_RainCoverModel_204 w_static_RainCoverModel_in__III_Z ⟨⟨by decide, by decide⟩, ⟨by decide, by decide⟩⟩ (Nat.le_of_ble_eq_true rfl) (fun v7 => ?_)
        refine a_if_eq 60 dX12_pay_32 (by decide) (fun c8 => ?_) (fun c8 => ?_)
        · refine a_bipush (v := (-2)) dX12_pay_60 (by decide) ?_
          exact a_iret dX12_pay_62 rfl rfl (by decide) (by decide)
        · refine a_iload dX12_pay_35 5 rfl ?_
          refine a_iconst (v := 0) dX12_pay_37 (by decide) ?_
          refine a_iconst (v := 3) dX12_pay_38 (by decide) ?_
          refine a_cS_Pi (as := [.int p5, .int 0, .int 3]) (st := []) dX12_pay_39 (c_X12_in l g h p5 0 3) rfl km_X12_in (hm_X12_in) w_methodLink_RainCoverModel_204 w_static_RainCoverModel_in__III_Z ⟨⟨by decide, by decide⟩, ⟨by decide, by decide⟩⟩ (Nat.le_of_ble_eq_true rfl) (fun v9 => ?_)
          refine a_if_eq 60 dX12_pay_42 (by decide) (fun c10 => ?_) (fun c10 => ?_)
          · refine a_bipush (v := (-2)) dX12_pay_60 (by decide) ?_
            exact a_iret dX12_pay_62 rfl rfl (by decide) (by decide)
          · refine a_aload_n dX12_pay_45 rfl 0 rfl ?_
            refine a_iconst (v := 0) dX12_pay_46 (by decide) ?_
            refine a_iload_n dX12_pay_47 rfl 1 rfl ?_
            refine a_iload_n dX12_pay_48 rfl 2 rfl ?_
            refine a_iload_n dX12_pay_49 rfl 3 rfl ?_
            refine a_iload dX12_pay_50 4 rfl ?_
            refine a_iload dX12_pay_52 5 rfl ?_
            refine a_cV_Pi (r := p0) (ci := 13) (as := [.int 0, .int p1, .int p2, .int p3, .int p4, .int p5]) (st := []) dX12_pay_54 (c_X12_payOf l g h N p0 0 p1 p2 p3 p4 p5) rfl km_X12_payOf (hm_X12_payOf) rfl (by decide) rfl (fun _ ee => g_X12_payOf ee) w_methodLink_RainCoverModel_331 w_instanceMethod_RainCoverModel_payOf__IIIIII_I w_selects_RainCoverModel_RainCoverModel_payOf__IIIIII_I_RainCoverModel_payOf__IIIIII_I ⟨⟨by decide, by decide⟩, ⟨by decide, by decide⟩⟩ (Nat.le_of_ble_eq_true rfl) (fun v11 => ?_)
            refine a_goto 62 dX12_pay_57 (by decide) ?_
            exact a_iret dX12_pay_62 rfl rfl (by decide) (by decide)
theorem dX12_farm_0 : decode cX12_farm 0 = .ok (.iload_n 1, 1) := by decide +kernel
theorem dX12_farm_1 : decode cX12_farm 1 = .ok (.iload_n 2, 1) := by decide +kernel
theorem dX12_farm_2 : decode cX12_farm 2 = .ok (.invokestatic 217, 3) := by decide +kernel
theorem dX12_farm_5 : decode cX12_farm 5 = .ok (.ifCond .eq 23, 3) := by decide +kernel
theorem dX12_farm_8 : decode cX12_farm 8 = .ok (.iload_n 3, 1) := by decide +kernel
theorem dX12_farm_9 : decode cX12_farm 9 = .ok (.iconst 0, 1) := by decide +kernel
theorem dX12_farm_10 : decode cX12_farm 10 = .ok (.iconst 3, 1) := by decide +kernel
theorem dX12_farm_11 : decode cX12_farm 11 = .ok (.invokestatic 204, 3) := by decide +kernel
theorem dX12_farm_14 : decode cX12_farm 14 = .ok (.ifCond .eq 14, 3) := by decide +kernel
theorem dX12_farm_17 : decode cX12_farm 17 = .ok (.iload 4, 2) := by decide +kernel
theorem dX12_farm_19 : decode cX12_farm 19 = .ok (.iconst 1, 1) := by decide +kernel
theorem dX12_farm_20 : decode cX12_farm 20 = .ok (.bipush 99, 2) := by decide +kernel
theorem dX12_farm_22 : decode cX12_farm 22 = .ok (.invokestatic 204, 3) := by decide +kernel
theorem dX12_farm_25 : decode cX12_farm 25 = .ok (.ifCond .ne 6, 3) := by decide +kernel
theorem dX12_farm_28 : decode cX12_farm 28 = .ok (.bipush (-2), 2) := by decide +kernel
theorem dX12_farm_30 : decode cX12_farm 30 = .ok (.ireturn, 1) := by decide +kernel
theorem dX12_farm_31 : decode cX12_farm 31 = .ok (.aload_n 0, 1) := by decide +kernel
theorem dX12_farm_32 : decode cX12_farm 32 = .ok (.getfield 214, 3) := by decide +kernel
theorem dX12_farm_35 : decode cX12_farm 35 = .ok (.bipush 24, 2) := by decide +kernel
theorem dX12_farm_37 : decode cX12_farm 37 = .ok (.if_icmp .ne 6, 3) := by decide +kernel
theorem dX12_farm_40 : decode cX12_farm 40 = .ok (.bipush (-4), 2) := by decide +kernel
theorem dX12_farm_42 : decode cX12_farm 42 = .ok (.ireturn, 1) := by decide +kernel
theorem dX12_farm_43 : decode cX12_farm 43 = .ok (.aload_n 0, 1) := by decide +kernel
theorem dX12_farm_44 : decode cX12_farm 44 = .ok (.getfield 82, 3) := by decide +kernel
theorem dX12_farm_47 : decode cX12_farm 47 = .ok (.aload_n 0, 1) := by decide +kernel
theorem dX12_farm_48 : decode cX12_farm 48 = .ok (.getfield 214, 3) := by decide +kernel
theorem dX12_farm_51 : decode cX12_farm 51 = .ok (.iload_n 1, 1) := by decide +kernel
theorem dX12_farm_52 : decode cX12_farm 52 = .ok (.iastore, 1) := by decide +kernel
theorem dX12_farm_53 : decode cX12_farm 53 = .ok (.aload_n 0, 1) := by decide +kernel
theorem dX12_farm_54 : decode cX12_farm 54 = .ok (.getfield 85, 3) := by decide +kernel
theorem dX12_farm_57 : decode cX12_farm 57 = .ok (.aload_n 0, 1) := by decide +kernel
theorem dX12_farm_58 : decode cX12_farm 58 = .ok (.getfield 214, 3) := by decide +kernel
theorem dX12_farm_61 : decode cX12_farm 61 = .ok (.iload_n 2, 1) := by decide +kernel
theorem dX12_farm_62 : decode cX12_farm 62 = .ok (.iastore, 1) := by decide +kernel
theorem dX12_farm_63 : decode cX12_farm 63 = .ok (.aload_n 0, 1) := by decide +kernel
theorem dX12_farm_64 : decode cX12_farm 64 = .ok (.getfield 88, 3) := by decide +kernel
theorem dX12_farm_67 : decode cX12_farm 67 = .ok (.aload_n 0, 1) := by decide +kernel
theorem dX12_farm_68 : decode cX12_farm 68 = .ok (.getfield 214, 3) := by decide +kernel
theorem dX12_farm_71 : decode cX12_farm 71 = .ok (.iload_n 3, 1) := by decide +kernel
theorem dX12_farm_72 : decode cX12_farm 72 = .ok (.iastore, 1) := by decide +kernel
theorem dX12_farm_73 : decode cX12_farm 73 = .ok (.aload_n 0, 1) := by decide +kernel
theorem dX12_farm_74 : decode cX12_farm 74 = .ok (.getfield 91, 3) := by decide +kernel
theorem dX12_farm_77 : decode cX12_farm 77 = .ok (.aload_n 0, 1) := by decide +kernel
theorem dX12_farm_78 : decode cX12_farm 78 = .ok (.getfield 214, 3) := by decide +kernel
theorem dX12_farm_81 : decode cX12_farm 81 = .ok (.iload 4, 2) := by decide +kernel
theorem dX12_farm_83 : decode cX12_farm 83 = .ok (.iastore, 1) := by decide +kernel
theorem dX12_farm_84 : decode cX12_farm 84 = .ok (.aload_n 0, 1) := by decide +kernel
theorem dX12_farm_85 : decode cX12_farm 85 = .ok (.getfield 97, 3) := by decide +kernel
theorem dX12_farm_88 : decode cX12_farm 88 = .ok (.aload_n 0, 1) := by decide +kernel
theorem dX12_farm_89 : decode cX12_farm 89 = .ok (.getfield 214, 3) := by decide +kernel
theorem dX12_farm_92 : decode cX12_farm 92 = .ok (.iconst (-1), 1) := by decide +kernel
theorem dX12_farm_93 : decode cX12_farm 93 = .ok (.iastore, 1) := by decide +kernel
theorem dX12_farm_94 : decode cX12_farm 94 = .ok (.aload_n 0, 1) := by decide +kernel
theorem dX12_farm_95 : decode cX12_farm 95 = .ok (.dup, 1) := by decide +kernel
theorem dX12_farm_96 : decode cX12_farm 96 = .ok (.getfield 214, 3) := by decide +kernel
theorem dX12_farm_99 : decode cX12_farm 99 = .ok (.iconst 1, 1) := by decide +kernel
theorem dX12_farm_100 : decode cX12_farm 100 = .ok (.iadd, 1) := by decide +kernel
theorem dX12_farm_101 : decode cX12_farm 101 = .ok (.putfield 214, 3) := by decide +kernel
theorem dX12_farm_104 : decode cX12_farm 104 = .ok (.aload_n 0, 1) := by decide +kernel
theorem dX12_farm_105 : decode cX12_farm 105 = .ok (.getfield 214, 3) := by decide +kernel
theorem dX12_farm_108 : decode cX12_farm 108 = .ok (.iconst 1, 1) := by decide +kernel
theorem dX12_farm_109 : decode cX12_farm 109 = .ok (.isub, 1) := by decide +kernel
theorem dX12_farm_110 : decode cX12_farm 110 = .ok (.ireturn, 1) := by decide +kernel
abbrev M_X12_farm : MI := (RX12, cX12_farm, 5, (some .int), ({ frames := 2, cells := 0, slots := 0, locals := 43 } : Room), 0, 0, false)
def f_X12_farm (h0 : AH) (p0 : Nat) (p1 : Int32) (p2 : Int32) (p3 : Int32) (p4 : Int32) : Option (Int32 × AH) := if kd h0 p0 = 13 + 1 then (f_X12_isPlace h0 p1 p2).bind fun v1 => (if v1 = 0 then some ((-2), h0) else (f_X12_in h0 p3 0 3).bind fun v3 => (if v3 = 0 then some ((-2), h0) else (f_X12_in h0 p4 1 99).bind fun v5 => (if v5 = 0 then some ((-2), h0) else (xgi h0 p0 13 26).bind fun v7 => (if v7 = 24 then some ((-4), h0) else (xgr h0 p0 13 27).bind fun v9 => (xgi h0 p0 13 26).bind fun v10 => (xis h0 v9 v10 p1).bind fun h11 => (xgr h11 p0 13 28).bind fun v12 => (xgi h11 p0 13 26).bind fun v13 => (xis h11 v12 v13 p2).bind fun h14 => (xgr h14 p0 13 29).bind fun v15 => (xgi h14 p0 13 26).bind fun v16 => (xis h14 v15 v16 p3).bind fun h17 => (xgr h17 p0 13 30).bind fun v18 => (xgi h17 p0 13 26).bind fun v19 => (xis h17 v18 v19 p4).bind fun h20 => (xgr h20 p0 13 32).bind fun v21 => (xgi h20 p0 13 26).bind fun v22 => (xis h20 v21 v22 (-1)).bind fun h23 => (xgi h23 p0 13 26).bind fun v24 => (xpi h23 p0 13 26 (v24 + 1)).bind fun h25 => (xgi h25 p0 13 26).bind fun v26 => some ((v26 - 1), h25))))) else none
theorem g_X12_farm {h0 : AH} {p0 : Nat} {p1 : Int32} {p2 : Int32} {p3 : Int32} {p4 : Int32} {x : (Int32 × AH)} (e : f_X12_farm h0 p0 p1 p2 p3 p4 = some x) : kd h0 p0 = 13 + 1 := by
  unfold f_X12_farm at e
  by_cases hk : kd h0 p0 = 13 + 1
  · exact hk
  · rw [if_neg hk] at e
    cases e
theorem km_X12_farm : KM yX12_farm M_X12_farm 4 := ⟨in_tb 1604 (by decide +kernel) rfl, in_tb 9 (by decide +kernel) rfl, by decide +kernel, rfl, rfl⟩
theorem hm_X12_farm : M_X12_farm.2.2.2.2.2.1 = 0 ∧ M_X12_farm.2.2.2.2.2.2.1 = 0 := ⟨rfl, rfl⟩
section
variable {l : Launch} {g : GG}
end
set_option maxRecDepth 100000 in
set_option maxHeartbeats 4000000 in
theorem c_X12_farm (l : Launch) (g : GG) (h0 : AH) (p0 : Nat) (p1 : Int32) (p2 : Int32) (p3 : Int32) (p4 : Int32) : CN l g yX12_farm M_X12_farm false [.ref p0, .int p1, .int p2, .int p3, .int p4] h0 rSi (f_X12_farm h0 p0 p1 p2 p3 p4) := by
  refine CN.of (by decide) rfl (fun hh => by first | rfl | cases hh) (Nat.le_of_ble_eq_true rfl) ?_
  unfold f_X12_farm
  refine a_gd (fun hkd => ?_)
  refine a_iload_n dX12_farm_0 rfl 1 rfl ?_
  refine a_iload_n dX12_farm_1 rfl 2 rfl ?_
  refine a_cS_Pi (as := [.int p1, .int p2]) (st := []) dX12_farm_2 (c_X12_isPlace l g h0 p1 p2) rfl km_X12_isPlace (hm_X12_isPlace) w_methodLink_RainCoverModel_217 w_static_RainCoverModel_isPlace__II_Z ⟨⟨by decide, by decide⟩, ⟨by decide, by decide⟩⟩ (Nat.le_of_ble_eq_true rfl) (fun v1 => ?_)
  refine a_if_eq 28 dX12_farm_5 (by decide) (fun c2 => ?_) (fun c2 => ?_)
  · refine a_bipush (v := (-2)) dX12_farm_28 (by decide) ?_
    exact a_iret dX12_farm_30 rfl rfl (by decide) (by decide)
  · refine a_iload_n dX12_farm_8 rfl 3 rfl ?_
    refine a_iconst (v := 0) dX12_farm_9 (by decide) ?_
    refine a_iconst (v := 3) dX12_farm_10 (by decide) ?_
    refine a_cS_Pi (as := [.int p3, .int 0, .int 3]) (st := []) dX12_farm_11 (c_X12_in l g h0 p3 0 3) rfl km_X12_in (hm_X12_in) w_methodLink_RainCoverModel_204 w_static_RainCoverModel_in__III_Z ⟨⟨by decide, by decide⟩, ⟨by decide, by decide⟩⟩ (Nat.le_of_ble_eq_true rfl) (fun v3 => ?_)
    refine a_if_eq 28 dX12_farm_14 (by decide) (fun c4 => ?_) (fun c4 => ?_)
    · refine a_bipush (v := (-2)) dX12_farm_28 (by decide) ?_
      exact a_iret dX12_farm_30 rfl rfl (by decide) (by decide)
    · refine a_iload dX12_farm_17 4 rfl ?_
      refine a_iconst (v := 1) dX12_farm_19 (by decide) ?_
      refine a_bipush (v := 99) dX12_farm_20 (by decide) ?_
      refine a_cS_Pi (as := [.int p4, .int 1, .int 99]) (st := []) dX12_farm_22 (c_X12_in l g h0 p4 1 99) rfl km_X12_in (hm_X12_in) w_methodLink_RainCoverModel_204 w_static_RainCoverModel_in__III_Z ⟨⟨by decide, by decide⟩, ⟨by decide, by decide⟩⟩ (Nat.le_of_ble_eq_true rfl) (fun v5 => ?_)
      refine a_if_ne 31 dX12_farm_25 (by decide) (fun c6 => ?_) (fun c6 => ?_)
      · refine a_bipush (v := (-2)) dX12_farm_28 (by decide) ?_
        exact a_iret dX12_farm_30 rfl rfl (by decide) (by decide)
      · refine a_aload_n dX12_farm_31 rfl 0 rfl ?_
        refine a_geti kc13 26 dX12_farm_32 (by decide) rfl w_fieldLink_RainCoverModel_214 (fun v7 => ?_)
        refine a_bipush (v := 24) dX12_farm_35 (by decide) ?_
        refine a_icmp_ne 43 dX12_farm_37 (by decide) (fun c8 => ?_) (fun c8 => ?_)
        · refine a_bipush (v := (-4)) dX12_farm_40 (by decide) ?_
          exact a_iret dX12_farm_42 rfl rfl (by decide) (by decide)
        · refine a_aload_n dX12_farm_43 rfl 0 rfl ?_
          refine a_getr kc13 27 dX12_farm_44 (by decide) rfl w_fieldLink_RainCoverModel_82 (fun v9 => ?_)
          refine a_aload_n dX12_farm_47 rfl 0 rfl ?_
          refine a_geti kc13 26 dX12_farm_48 (by decide) rfl w_fieldLink_RainCoverModel_214 (fun v10 => ?_)
          refine a_iload_n dX12_farm_51 rfl 1 rfl ?_
          refine a_iast dX12_farm_52 (fun h11 => ?_)
          refine a_aload_n dX12_farm_53 rfl 0 rfl ?_
          refine a_getr kc13 28 dX12_farm_54 (by decide) rfl w_fieldLink_RainCoverModel_85 (fun v12 => ?_)
          refine a_aload_n dX12_farm_57 rfl 0 rfl ?_
          refine a_geti kc13 26 dX12_farm_58 (by decide) rfl w_fieldLink_RainCoverModel_214 (fun v13 => ?_)
          refine a_iload_n dX12_farm_61 rfl 2 rfl ?_
          refine a_iast dX12_farm_62 (fun h14 => ?_)
          refine a_aload_n dX12_farm_63 rfl 0 rfl ?_
          refine a_getr kc13 29 dX12_farm_64 (by decide) rfl w_fieldLink_RainCoverModel_88 (fun v15 => ?_)
          refine a_aload_n dX12_farm_67 rfl 0 rfl ?_
          refine a_geti kc13 26 dX12_farm_68 (by decide) rfl w_fieldLink_RainCoverModel_214 (fun v16 => ?_)
          refine a_iload_n dX12_farm_71 rfl 3 rfl ?_
          refine a_iast dX12_farm_72 (fun h17 => ?_)
          refine a_aload_n dX12_farm_73 rfl 0 rfl ?_
          refine a_getr kc13 30 dX12_farm_74 (by decide) rfl w_fieldLink_RainCoverModel_91 (fun v18 => ?_)
          refine a_aload_n dX12_farm_77 rfl 0 rfl ?_
          refine a_geti kc13 26 dX12_farm_78 (by decide) rfl w_fieldLink_RainCoverModel_214 (fun v19 => ?_)
          refine a_iload dX12_farm_81 4 rfl ?_
          refine a_iast dX12_farm_83 (fun h20 => ?_)
          refine a_aload_n dX12_farm_84 rfl 0 rfl ?_
          refine a_getr kc13 32 dX12_farm_85 (by decide) rfl w_fieldLink_RainCoverModel_97 (fun v21 => ?_)
          refine a_aload_n dX12_farm_88 rfl 0 rfl ?_
          refine a_geti kc13 26 dX12_farm_89 (by decide) rfl w_fieldLink_RainCoverModel_214 (fun v22 => ?_)
          refine a_iconst (v := (-1)) dX12_farm_92 (by decide) ?_
          refine a_iast dX12_farm_93 (fun h23 => ?_)
          refine a_aload_n dX12_farm_94 rfl 0 rfl ?_
          refine a_dup dX12_farm_95 rfl ?_
          refine a_geti kc13 26 dX12_farm_96 (by decide) rfl w_fieldLink_RainCoverModel_214 (fun v24 => ?_)
          refine a_iconst (v := 1) dX12_farm_99 (by decide) ?_
          refine a_iadd dX12_farm_100 ?_
          refine a_puti kc13 26 dX12_farm_101 (by decide) rfl w_fieldLink_RainCoverModel_214 rfl rfl (fun h25 => ?_)
          refine a_aload_n dX12_farm_104 rfl 0 rfl ?_
          refine a_geti kc13 26 dX12_farm_105 (by decide) rfl w_fieldLink_RainCoverModel_214 (fun v26 => ?_)
          refine a_iconst (v := 1) dX12_farm_108 (by decide) ?_
          refine a_isub dX12_farm_109 ?_
          exact a_iret dX12_farm_110 rfl rfl (by decide) (by decide)
theorem dX12_plant_0 : decode cX12_plant 0 = .ok (.iload_n 1, 1) := by decide +kernel
theorem dX12_plant_1 : decode cX12_plant 1 = .ok (.iconst 0, 1) := by decide +kernel
theorem dX12_plant_2 : decode cX12_plant 2 = .ok (.iconst 3, 1) := by decide +kernel
theorem dX12_plant_3 : decode cX12_plant 3 = .ok (.invokestatic 204, 3) := by decide +kernel
theorem dX12_plant_6 : decode cX12_plant 6 = .ok (.ifCond .ne 5, 3) := by decide +kernel
theorem dX12_plant_9 : decode cX12_plant 9 = .ok (.iconst (-1), 1) := by decide +kernel
theorem dX12_plant_10 : decode cX12_plant 10 = .ok (.ireturn, 1) := by decide +kernel
theorem dX12_plant_11 : decode cX12_plant 11 = .ok (.iload_n 2, 1) := by decide +kernel
theorem dX12_plant_12 : decode cX12_plant 12 = .ok (.iconst 0, 1) := by decide +kernel
theorem dX12_plant_13 : decode cX12_plant 13 = .ok (.iconst 5, 1) := by decide +kernel
theorem dX12_plant_14 : decode cX12_plant 14 = .ok (.invokestatic 204, 3) := by decide +kernel
theorem dX12_plant_17 : decode cX12_plant 17 = .ok (.ifCond .ne 6, 3) := by decide +kernel
theorem dX12_plant_20 : decode cX12_plant 20 = .ok (.bipush (-2), 2) := by decide +kernel
theorem dX12_plant_22 : decode cX12_plant 22 = .ok (.ireturn, 1) := by decide +kernel
theorem dX12_plant_23 : decode cX12_plant 23 = .ok (.aload_n 0, 1) := by decide +kernel
theorem dX12_plant_24 : decode cX12_plant 24 = .ok (.getfield 106, 3) := by decide +kernel
theorem dX12_plant_27 : decode cX12_plant 27 = .ok (.iload_n 1, 1) := by decide +kernel
theorem dX12_plant_28 : decode cX12_plant 28 = .ok (.iaload, 1) := by decide +kernel
theorem dX12_plant_29 : decode cX12_plant 29 = .ok (.istore_n 3, 1) := by decide +kernel
theorem dX12_plant_30 : decode cX12_plant 30 = .ok (.aload_n 0, 1) := by decide +kernel
theorem dX12_plant_31 : decode cX12_plant 31 = .ok (.getfield 106, 3) := by decide +kernel
theorem dX12_plant_34 : decode cX12_plant 34 = .ok (.iload_n 1, 1) := by decide +kernel
theorem dX12_plant_35 : decode cX12_plant 35 = .ok (.iload_n 2, 1) := by decide +kernel
theorem dX12_plant_36 : decode cX12_plant 36 = .ok (.iastore, 1) := by decide +kernel
theorem dX12_plant_37 : decode cX12_plant 37 = .ok (.iload_n 3, 1) := by decide +kernel
theorem dX12_plant_38 : decode cX12_plant 38 = .ok (.ireturn, 1) := by decide +kernel
abbrev M_X12_plant : MI := (RX12, cX12_plant, 4, (some .int), ({ frames := 1, cells := 0, slots := 0, locals := 22 } : Room), 0, 0, false)
def f_X12_plant (h0 : AH) (p0 : Nat) (p1 : Int32) (p2 : Int32) : Option (Int32 × AH) := if kd h0 p0 = 13 + 1 then (f_X12_in h0 p1 0 3).bind fun v1 => (if v1 = 0 then some ((-1), h0) else (f_X12_in h0 p2 0 5).bind fun v3 => (if v3 = 0 then some ((-2), h0) else (xgr h0 p0 13 35).bind fun v5 => (xia h0 v5 p1).bind fun v6 => (xgr h0 p0 13 35).bind fun v7 => (xis h0 v7 p1 p2).bind fun h8 => some (v6, h8))) else none
theorem g_X12_plant {h0 : AH} {p0 : Nat} {p1 : Int32} {p2 : Int32} {x : (Int32 × AH)} (e : f_X12_plant h0 p0 p1 p2 = some x) : kd h0 p0 = 13 + 1 := by
  unfold f_X12_plant at e
  by_cases hk : kd h0 p0 = 13 + 1
  · exact hk
  · rw [if_neg hk] at e
    cases e
theorem km_X12_plant : KM yX12_plant M_X12_plant 2 := ⟨in_tb 1608 (by decide +kernel) rfl, in_tb 9 (by decide +kernel) rfl, by decide +kernel, rfl, rfl⟩
theorem hm_X12_plant : M_X12_plant.2.2.2.2.2.1 = 0 ∧ M_X12_plant.2.2.2.2.2.2.1 = 0 := ⟨rfl, rfl⟩
section
variable {l : Launch} {g : GG}
end
set_option maxRecDepth 100000 in
set_option maxHeartbeats 4000000 in
theorem c_X12_plant (l : Launch) (g : GG) (h0 : AH) (p0 : Nat) (p1 : Int32) (p2 : Int32) : CN l g yX12_plant M_X12_plant false [.ref p0, .int p1, .int p2] h0 rSi (f_X12_plant h0 p0 p1 p2) := by
  refine CN.of (by decide) rfl (fun hh => by first | rfl | cases hh) (Nat.le_of_ble_eq_true rfl) ?_
  unfold f_X12_plant
  refine a_gd (fun hkd => ?_)
  refine a_iload_n dX12_plant_0 rfl 1 rfl ?_
  refine a_iconst (v := 0) dX12_plant_1 (by decide) ?_
  refine a_iconst (v := 3) dX12_plant_2 (by decide) ?_
  refine a_cS_Pi (as := [.int p1, .int 0, .int 3]) (st := []) dX12_plant_3 (c_X12_in l g h0 p1 0 3) rfl km_X12_in (hm_X12_in) w_methodLink_RainCoverModel_204 w_static_RainCoverModel_in__III_Z ⟨⟨by decide, by decide⟩, ⟨by decide, by decide⟩⟩ (Nat.le_of_ble_eq_true rfl) (fun v1 => ?_)
  refine a_if_ne 11 dX12_plant_6 (by decide) (fun c2 => ?_) (fun c2 => ?_)
  · refine a_iconst (v := (-1)) dX12_plant_9 (by decide) ?_
    exact a_iret dX12_plant_10 rfl rfl (by decide) (by decide)
  · refine a_iload_n dX12_plant_11 rfl 2 rfl ?_
    refine a_iconst (v := 0) dX12_plant_12 (by decide) ?_
    refine a_iconst (v := 5) dX12_plant_13 (by decide) ?_
    refine a_cS_Pi (as := [.int p2, .int 0, .int 5]) (st := []) dX12_plant_14 (c_X12_in l g h0 p2 0 5) rfl km_X12_in (hm_X12_in) w_methodLink_RainCoverModel_204 w_static_RainCoverModel_in__III_Z ⟨⟨by decide, by decide⟩, ⟨by decide, by decide⟩⟩ (Nat.le_of_ble_eq_true rfl) (fun v3 => ?_)
    refine a_if_ne 23 dX12_plant_17 (by decide) (fun c4 => ?_) (fun c4 => ?_)
    · refine a_bipush (v := (-2)) dX12_plant_20 (by decide) ?_
      exact a_iret dX12_plant_22 rfl rfl (by decide) (by decide)
    · refine a_aload_n dX12_plant_23 rfl 0 rfl ?_
      refine a_getr kc13 35 dX12_plant_24 (by decide) rfl w_fieldLink_RainCoverModel_106 (fun v5 => ?_)
      refine a_iload_n dX12_plant_27 rfl 1 rfl ?_
      refine a_iald dX12_plant_28 (fun v6 => ?_)
      refine a_istore_n (lc2 := [(3, .int v6), (0, .ref p0), (1, .int p1), (2, .int p2)]) dX12_plant_29 rfl (by decide) rfl ?_
      refine a_aload_n dX12_plant_30 rfl 1 rfl ?_
      refine a_getr kc13 35 dX12_plant_31 (by decide) rfl w_fieldLink_RainCoverModel_106 (fun v7 => ?_)
      refine a_iload_n dX12_plant_34 rfl 2 rfl ?_
      refine a_iload_n dX12_plant_35 rfl 3 rfl ?_
      refine a_iast dX12_plant_36 (fun h8 => ?_)
      refine a_iload_n dX12_plant_37 rfl 0 rfl ?_
      exact a_iret dX12_plant_38 rfl rfl (by decide) (by decide)
theorem dX12_farFrom_0 : decode cX12_farFrom 0 = .ok (.aload_n 0, 1) := by decide +kernel
theorem dX12_farFrom_1 : decode cX12_farFrom 1 = .ok (.getfield 82, 3) := by decide +kernel
theorem dX12_farFrom_4 : decode cX12_farFrom 4 = .ok (.iload_n 1, 1) := by decide +kernel
theorem dX12_farFrom_5 : decode cX12_farFrom 5 = .ok (.iaload, 1) := by decide +kernel
theorem dX12_farFrom_6 : decode cX12_farFrom 6 = .ok (.iload_n 2, 1) := by decide +kernel
theorem dX12_farFrom_7 : decode cX12_farFrom 7 = .ok (.invokestatic 257, 3) := by decide +kernel
theorem dX12_farFrom_10 : decode cX12_farFrom 10 = .ok (.aload_n 0, 1) := by decide +kernel
theorem dX12_farFrom_11 : decode cX12_farFrom 11 = .ok (.getfield 85, 3) := by decide +kernel
theorem dX12_farFrom_14 : decode cX12_farFrom 14 = .ok (.iload_n 1, 1) := by decide +kernel
theorem dX12_farFrom_15 : decode cX12_farFrom 15 = .ok (.iaload, 1) := by decide +kernel
theorem dX12_farFrom_16 : decode cX12_farFrom 16 = .ok (.iload_n 3, 1) := by decide +kernel
theorem dX12_farFrom_17 : decode cX12_farFrom 17 = .ok (.invokestatic 257, 3) := by decide +kernel
theorem dX12_farFrom_20 : decode cX12_farFrom 20 = .ok (.iadd, 1) := by decide +kernel
theorem dX12_farFrom_21 : decode cX12_farFrom 21 = .ok (.ireturn, 1) := by decide +kernel
abbrev M_X12_farFrom : MI := (RX12, cX12_farFrom, 4, (some .int), ({ frames := 1, cells := 0, slots := 0, locals := 21 } : Room), 0, 0, false)
def f_X12_farFrom (h : AH) (p0 : Nat) (p1 : Int32) (p2 : Int32) (p3 : Int32) : Option Int32 := if kd h p0 = 13 + 1 then (xgr h p0 13 27).bind fun v1 => (xia h v1 p1).bind fun v2 => (f_X12_apart h v2 p2).bind fun v3 => (xgr h p0 13 28).bind fun v4 => (xia h v4 p1).bind fun v5 => (f_X12_apart h v5 p3).bind fun v6 => some (v3 + v6) else none
theorem g_X12_farFrom {h : AH} {p0 : Nat} {p1 : Int32} {p2 : Int32} {p3 : Int32} {x : Int32} (e : f_X12_farFrom h p0 p1 p2 p3 = some x) : kd h p0 = 13 + 1 := by
  unfold f_X12_farFrom at e
  by_cases hk : kd h p0 = 13 + 1
  · exact hk
  · rw [if_neg hk] at e
    cases e
theorem km_X12_farFrom : KM yX12_farFrom M_X12_farFrom 3 := ⟨in_tb 1636 (by decide +kernel) rfl, in_tb 9 (by decide +kernel) rfl, by decide +kernel, rfl, rfl⟩
theorem hm_X12_farFrom : M_X12_farFrom.2.2.2.2.2.1 = 0 ∧ M_X12_farFrom.2.2.2.2.2.2.1 = 0 := ⟨rfl, rfl⟩
section
variable {l : Launch} {g : GG}
end
set_option maxRecDepth 100000 in
set_option maxHeartbeats 4000000 in
theorem c_X12_farFrom (l : Launch) (g : GG) (h : AH) (p0 : Nat) (p1 : Int32) (p2 : Int32) (p3 : Int32) : CN l g yX12_farFrom M_X12_farFrom false [.ref p0, .int p1, .int p2, .int p3] h ((rPi h)) (f_X12_farFrom h p0 p1 p2 p3) := by
  refine CN.of (by decide) rfl (fun hh => by first | rfl | cases hh) (Nat.le_of_ble_eq_true rfl) ?_
  unfold f_X12_farFrom
  refine a_gd (fun hkd => ?_)
  refine a_aload_n dX12_farFrom_0 rfl 0 rfl ?_
  refine a_getr kc13 27 dX12_farFrom_1 (by decide) rfl w_fieldLink_RainCoverModel_82 (fun v1 => ?_)
  refine a_iload_n dX12_farFrom_4 rfl 1 rfl ?_
  refine a_iald dX12_farFrom_5 (fun v2 => ?_)
  refine a_iload_n dX12_farFrom_6 rfl 2 rfl ?_
  refine a_cS_Pi (as := [.int v2, .int p2]) (st := []) dX12_farFrom_7 (c_X12_apart l g h v2 p2) rfl km_X12_apart (hm_X12_apart) w_methodLink_RainCoverModel_257 w_static_RainCoverModel_apart__II_I ⟨⟨by decide, by decide⟩, ⟨by decide, by decide⟩⟩ (Nat.le_of_ble_eq_true rfl) (fun v3 => ?_)
  refine a_aload_n dX12_farFrom_10 rfl 0 rfl ?_
  refine a_getr kc13 28 dX12_farFrom_11 (by decide) rfl w_fieldLink_RainCoverModel_85 (fun v4 => ?_)
  refine a_iload_n dX12_farFrom_14 rfl 1 rfl ?_
  refine a_iald dX12_farFrom_15 (fun v5 => ?_)
  refine a_iload_n dX12_farFrom_16 rfl 3 rfl ?_
  refine a_cS_Pi (as := [.int v5, .int p3]) (st := [.int v3]) dX12_farFrom_17 (c_X12_apart l g h v5 p3) rfl km_X12_apart (hm_X12_apart) w_methodLink_RainCoverModel_257 w_static_RainCoverModel_apart__II_I ⟨⟨by decide, by decide⟩, ⟨by decide, by decide⟩⟩ (Nat.le_of_ble_eq_true rfl) (fun v6 => ?_)
  refine a_iadd dX12_farFrom_20 ?_
  exact a_iret dX12_farFrom_21 rfl rfl (by decide) (by decide)
theorem dX12_gaugeOf_0 : decode cX12_gaugeOf 0 = .ok (.iconst (-1), 1) := by decide +kernel
theorem dX12_gaugeOf_1 : decode cX12_gaugeOf 1 = .ok (.istore_n 3, 1) := by decide +kernel
theorem dX12_gaugeOf_2 : decode cX12_gaugeOf 2 = .ok (.iconst 0, 1) := by decide +kernel
theorem dX12_gaugeOf_3 : decode cX12_gaugeOf 3 = .ok (.istore 4, 2) := by decide +kernel
theorem dX12_gaugeOf_5 : decode cX12_gaugeOf 5 = .ok (.iload 4, 2) := by decide +kernel
theorem dX12_gaugeOf_7 : decode cX12_gaugeOf 7 = .ok (.aload_n 0, 1) := by decide +kernel
theorem dX12_gaugeOf_8 : decode cX12_gaugeOf 8 = .ok (.getfield 208, 3) := by decide +kernel
theorem dX12_gaugeOf_11 : decode cX12_gaugeOf 11 = .ok (.if_icmp .ge 82, 3) := by decide +kernel
theorem dX12_gaugeOf_14 : decode cX12_gaugeOf 14 = .ok (.iload_n 3, 1) := by decide +kernel
theorem dX12_gaugeOf_15 : decode cX12_gaugeOf 15 = .ok (.iconst (-1), 1) := by decide +kernel
theorem dX12_gaugeOf_16 : decode cX12_gaugeOf 16 = .ok (.if_icmp .eq 42, 3) := by decide +kernel
theorem dX12_gaugeOf_19 : decode cX12_gaugeOf 19 = .ok (.aload_n 0, 1) := by decide +kernel
theorem dX12_gaugeOf_20 : decode cX12_gaugeOf 20 = .ok (.iload_n 1, 1) := by decide +kernel
theorem dX12_gaugeOf_21 : decode cX12_gaugeOf 21 = .ok (.aload_n 0, 1) := by decide +kernel
theorem dX12_gaugeOf_22 : decode cX12_gaugeOf 22 = .ok (.getfield 9, 3) := by decide +kernel
theorem dX12_gaugeOf_25 : decode cX12_gaugeOf 25 = .ok (.iload 4, 2) := by decide +kernel
theorem dX12_gaugeOf_27 : decode cX12_gaugeOf 27 = .ok (.iaload, 1) := by decide +kernel
theorem dX12_gaugeOf_28 : decode cX12_gaugeOf 28 = .ok (.aload_n 0, 1) := by decide +kernel
theorem dX12_gaugeOf_29 : decode cX12_gaugeOf 29 = .ok (.getfield 15, 3) := by decide +kernel
theorem dX12_gaugeOf_32 : decode cX12_gaugeOf 32 = .ok (.iload 4, 2) := by decide +kernel
theorem dX12_gaugeOf_34 : decode cX12_gaugeOf 34 = .ok (.iaload, 1) := by decide +kernel
theorem dX12_gaugeOf_35 : decode cX12_gaugeOf 35 = .ok (.invokevirtual 334, 3) := by decide +kernel
theorem dX12_gaugeOf_38 : decode cX12_gaugeOf 38 = .ok (.aload_n 0, 1) := by decide +kernel
theorem dX12_gaugeOf_39 : decode cX12_gaugeOf 39 = .ok (.iload_n 1, 1) := by decide +kernel
theorem dX12_gaugeOf_40 : decode cX12_gaugeOf 40 = .ok (.aload_n 0, 1) := by decide +kernel
theorem dX12_gaugeOf_41 : decode cX12_gaugeOf 41 = .ok (.getfield 9, 3) := by decide +kernel
theorem dX12_gaugeOf_44 : decode cX12_gaugeOf 44 = .ok (.iload_n 3, 1) := by decide +kernel
theorem dX12_gaugeOf_45 : decode cX12_gaugeOf 45 = .ok (.iaload, 1) := by decide +kernel
theorem dX12_gaugeOf_46 : decode cX12_gaugeOf 46 = .ok (.aload_n 0, 1) := by decide +kernel
theorem dX12_gaugeOf_47 : decode cX12_gaugeOf 47 = .ok (.getfield 15, 3) := by decide +kernel
theorem dX12_gaugeOf_50 : decode cX12_gaugeOf 50 = .ok (.iload_n 3, 1) := by decide +kernel
theorem dX12_gaugeOf_51 : decode cX12_gaugeOf 51 = .ok (.iaload, 1) := by decide +kernel
theorem dX12_gaugeOf_52 : decode cX12_gaugeOf 52 = .ok (.invokevirtual 334, 3) := by decide +kernel
theorem dX12_gaugeOf_55 : decode cX12_gaugeOf 55 = .ok (.if_icmp .ge 7, 3) := by decide +kernel
theorem dX12_gaugeOf_58 : decode cX12_gaugeOf 58 = .ok (.iconst 1, 1) := by decide +kernel
theorem dX12_gaugeOf_59 : decode cX12_gaugeOf 59 = .ok (.goto 4, 3) := by decide +kernel
theorem dX12_gaugeOf_62 : decode cX12_gaugeOf 62 = .ok (.iconst 0, 1) := by decide +kernel
theorem dX12_gaugeOf_63 : decode cX12_gaugeOf 63 = .ok (.istore 5, 2) := by decide +kernel
theorem dX12_gaugeOf_65 : decode cX12_gaugeOf 65 = .ok (.aload_n 0, 1) := by decide +kernel
theorem dX12_gaugeOf_66 : decode cX12_gaugeOf 66 = .ok (.iload 4, 2) := by decide +kernel
theorem dX12_gaugeOf_68 : decode cX12_gaugeOf 68 = .ok (.iload_n 2, 1) := by decide +kernel
theorem dX12_gaugeOf_69 : decode cX12_gaugeOf 69 = .ok (.invokevirtual 337, 3) := by decide +kernel
theorem dX12_gaugeOf_72 : decode cX12_gaugeOf 72 = .ok (.ifCond .eq 13, 3) := by decide +kernel
theorem dX12_gaugeOf_75 : decode cX12_gaugeOf 75 = .ok (.iload 5, 2) := by decide +kernel
theorem dX12_gaugeOf_77 : decode cX12_gaugeOf 77 = .ok (.ifCond .eq 8, 3) := by decide +kernel
theorem dX12_gaugeOf_80 : decode cX12_gaugeOf 80 = .ok (.iload 4, 2) := by decide +kernel
theorem dX12_gaugeOf_82 : decode cX12_gaugeOf 82 = .ok (.goto 4, 3) := by decide +kernel
theorem dX12_gaugeOf_85 : decode cX12_gaugeOf 85 = .ok (.iload_n 3, 1) := by decide +kernel
theorem dX12_gaugeOf_86 : decode cX12_gaugeOf 86 = .ok (.istore_n 3, 1) := by decide +kernel
theorem dX12_gaugeOf_87 : decode cX12_gaugeOf 87 = .ok (.iinc 4 1, 3) := by decide +kernel
theorem dX12_gaugeOf_90 : decode cX12_gaugeOf 90 = .ok (.goto (-85), 3) := by decide +kernel
theorem dX12_gaugeOf_93 : decode cX12_gaugeOf 93 = .ok (.iload_n 3, 1) := by decide +kernel
theorem dX12_gaugeOf_94 : decode cX12_gaugeOf 94 = .ok (.ireturn, 1) := by decide +kernel
abbrev M_X12_gaugeOf : MI := (RX12, cX12_gaugeOf, 6, (some .int), ({ frames := 2, cells := 0, slots := 0, locals := 44 } : Room), 0, 0, false)
def f_X12_gaugeOf_b86 (h : AH) (N : Nat) (K5 : Nat → Int32 → Int32 → Int32 → Int32 → Option Int32) (x0 : Nat) (x1 : Int32) (x2 : Int32) (x4 : Int32) (s4 : Int32) : Option Int32 := K5 x0 x1 x2 s4 (x4 + 1)
def f_X12_gaugeOf_b85 (h : AH) (N : Nat) (K5 : Nat → Int32 → Int32 → Int32 → Int32 → Option Int32) (x0 : Nat) (x1 : Int32) (x2 : Int32) (x3 : Int32) (x4 : Int32) : Option Int32 := f_X12_gaugeOf_b86 h N K5 x0 x1 x2 x4 x3
def f_X12_gaugeOf_b63 (h : AH) (N : Nat) (K5 : Nat → Int32 → Int32 → Int32 → Int32 → Option Int32) (x0 : Nat) (x1 : Int32) (x2 : Int32) (x3 : Int32) (x4 : Int32) (s5 : Int32) : Option Int32 := (f_X12_stands h x0 x4 x2).bind fun v15 => (if v15 = 0 then f_X12_gaugeOf_b85 h N K5 x0 x1 x2 x3 x4 else (if s5 = 0 then f_X12_gaugeOf_b85 h N K5 x0 x1 x2 x3 x4 else f_X12_gaugeOf_b86 h N K5 x0 x1 x2 x4 x4))
def f_X12_gaugeOf_b58 (h : AH) (N : Nat) (K5 : Nat → Int32 → Int32 → Int32 → Int32 → Option Int32) (x0 : Nat) (x1 : Int32) (x2 : Int32) (x3 : Int32) (x4 : Int32) : Option Int32 := f_X12_gaugeOf_b63 h N K5 x0 x1 x2 x3 x4 1
def f_X12_gaugeOf_b5_body (h : AH) (N : Nat) (K5 : Nat → Int32 → Int32 → Int32 → Int32 → Option Int32) (x0 : Nat) (x1 : Int32) (x2 : Int32) (x3 : Int32) (x4 : Int32) : Option Int32 := (xgi h x0 13 0).bind fun v1 => (if v1 ≤ x4 then some x3 else (if x3 = (-1) then f_X12_gaugeOf_b58 h N K5 x0 x1 x2 x3 x4 else (xgr h x0 13 1).bind fun v4 => (xia h v4 x4).bind fun v5 => (xgr h x0 13 2).bind fun v6 => (xia h v6 x4).bind fun v7 => (f_X12_farFrom h x0 x1 v5 v7).bind fun v8 => (xgr h x0 13 1).bind fun v9 => (xia h v9 x3).bind fun v10 => (xgr h x0 13 2).bind fun v11 => (xia h v11 x3).bind fun v12 => (f_X12_farFrom h x0 x1 v10 v12).bind fun v13 => (if v13 ≤ v8 then f_X12_gaugeOf_b63 h N K5 x0 x1 x2 x3 x4 0 else f_X12_gaugeOf_b58 h N K5 x0 x1 x2 x3 x4)))
def f_X12_gaugeOf_b5 (h : AH) (N : Nat) : Nat → Nat → Int32 → Int32 → Int32 → Int32 → Option Int32
  | 0, _, _, _, _, _ => none
  | n + 1, x0, x1, x2, x3, x4 => f_X12_gaugeOf_b5_body h N  (f_X12_gaugeOf_b5 h N  n) x0 x1 x2 x3 x4
def f_X12_gaugeOf (h : AH) (N : Nat) (p0 : Nat) (p1 : Int32) (p2 : Int32) : Option Int32 := if kd h p0 = 13 + 1 then f_X12_gaugeOf_b5 h N N p0 p1 p2 (-1) 0 else none
theorem g_X12_gaugeOf {h : AH} {N : Nat} {p0 : Nat} {p1 : Int32} {p2 : Int32} {x : Int32} (e : f_X12_gaugeOf h N p0 p1 p2 = some x) : kd h p0 = 13 + 1 := by
  unfold f_X12_gaugeOf at e
  by_cases hk : kd h p0 = 13 + 1
  · exact hk
  · rw [if_neg hk] at e
    cases e
theorem km_X12_gaugeOf : KM yX12_gaugeOf M_X12_gaugeOf 2 := ⟨in_tb 1632 (by decide +kernel) rfl, in_tb 9 (by decide +kernel) rfl, by decide +kernel, rfl, rfl⟩
theorem hm_X12_gaugeOf : M_X12_gaugeOf.2.2.2.2.2.1 = 0 ∧ M_X12_gaugeOf.2.2.2.2.2.2.1 = 0 := ⟨rfl, rfl⟩
section
variable {l : Launch} {g : GG}
set_option maxRecDepth 100000 in
set_option maxHeartbeats 4000000 in
theorem t_X12_gaugeOf_b86 (h : AH) (N : Nat) (K5 : Nat → Int32 → Int32 → Int32 → Int32 → Option Int32) (hK5 : ∀ (z0 : Nat) (z1 : Int32) (z2 : Int32) (z3 : Int32) (z4 : Int32), AO l g M_X12_gaugeOf false h 5 [(0, .ref z0), (1, .int z1), (2, .int z2), (3, .int z3), (4, .int z4)] [] h 0 0 (rPi h) (K5 z0 z1 z2 z3 z4)) (x0 : Nat) (x1 : Int32) (x2 : Int32) (x4 : Int32) (s4 : Int32) : AO l g M_X12_gaugeOf false h 86 [(0, .ref x0), (1, .int x1), (2, .int x2), (4, .int x4)] [.int s4] h 0 0 (rPi h) (f_X12_gaugeOf_b86 h N K5 x0 x1 x2 x4 s4) := by
  unfold f_X12_gaugeOf_b86
  refine a_istore_n (lc2 := [(3, .int s4), (0, .ref x0), (1, .int x1), (2, .int x2), (4, .int x4)]) dX12_gaugeOf_86 rfl (by decide) rfl ?_
  refine a_iinc (q := 4) (v := (x4 + 1)) (lc2 := [(4, .int (x4 + 1)), (3, .int s4), (0, .ref x0), (1, .int x1), (2, .int x2)]) dX12_gaugeOf_87 rfl rfl (by decide) rfl ?_
  refine a_goto 5 dX12_gaugeOf_90 (by decide) ?_
  refine a_pick (lc2 := [(0, .ref x0), (1, .int x1), (2, .int x2), (3, .int s4), (4, .int (x4 + 1))]) [2, 3, 4, 1, 0] rfl ?_
  exact hK5 x0 x1 x2 s4 (x4 + 1)
set_option maxRecDepth 100000 in
set_option maxHeartbeats 4000000 in
theorem t_X12_gaugeOf_b85 (h : AH) (N : Nat) (K5 : Nat → Int32 → Int32 → Int32 → Int32 → Option Int32) (hK5 : ∀ (z0 : Nat) (z1 : Int32) (z2 : Int32) (z3 : Int32) (z4 : Int32), AO l g M_X12_gaugeOf false h 5 [(0, .ref z0), (1, .int z1), (2, .int z2), (3, .int z3), (4, .int z4)] [] h 0 0 (rPi h) (K5 z0 z1 z2 z3 z4)) (x0 : Nat) (x1 : Int32) (x2 : Int32) (x3 : Int32) (x4 : Int32) : AO l g M_X12_gaugeOf false h 85 [(0, .ref x0), (1, .int x1), (2, .int x2), (3, .int x3), (4, .int x4)] [] h 0 0 (rPi h) (f_X12_gaugeOf_b85 h N K5 x0 x1 x2 x3 x4) := by
  unfold f_X12_gaugeOf_b85
  refine a_iload_n dX12_gaugeOf_85 rfl 3 rfl ?_
  refine a_pick (lc2 := [(0, .ref x0), (1, .int x1), (2, .int x2), (4, .int x4)]) [0, 1, 2, 4] rfl ?_
  exact t_X12_gaugeOf_b86 h N K5 hK5 x0 x1 x2 x4 x3
set_option maxRecDepth 100000 in
set_option maxHeartbeats 4000000 in
theorem t_X12_gaugeOf_b63 (h : AH) (N : Nat) (K5 : Nat → Int32 → Int32 → Int32 → Int32 → Option Int32) (hK5 : ∀ (z0 : Nat) (z1 : Int32) (z2 : Int32) (z3 : Int32) (z4 : Int32), AO l g M_X12_gaugeOf false h 5 [(0, .ref z0), (1, .int z1), (2, .int z2), (3, .int z3), (4, .int z4)] [] h 0 0 (rPi h) (K5 z0 z1 z2 z3 z4)) (x0 : Nat) (x1 : Int32) (x2 : Int32) (x3 : Int32) (x4 : Int32) (s5 : Int32) : AO l g M_X12_gaugeOf false h 63 [(0, .ref x0), (1, .int x1), (2, .int x2), (3, .int x3), (4, .int x4)] [.int s5] h 0 0 (rPi h) (f_X12_gaugeOf_b63 h N K5 x0 x1 x2 x3 x4 s5) := by
  unfold f_X12_gaugeOf_b63
  refine a_istore (lc2 := [(5, .int s5), (0, .ref x0), (1, .int x1), (2, .int x2), (3, .int x3), (4, .int x4)]) dX12_gaugeOf_63 (by decide) rfl ?_
  refine a_aload_n dX12_gaugeOf_65 rfl 1 rfl ?_
  refine a_iload dX12_gaugeOf_66 5 rfl ?_
  refine a_iload_n dX12_gaugeOf_68 rfl 3 rfl ?_
  refine a_cV_Pi (r := x0) (ci := 13) (as := [.int x4, .int x2]) (st := []) dX12_gaugeOf_69 (c_X12_stands l g h x0 x4 x2) rfl km_X12_stands (hm_X12_stands) rfl (by decide) rfl (fun _ ee => g_X12_stands ee) w_methodLink_RainCoverModel_337 w_instanceMethod_RainCoverModel_stands__II_Z w_selects_RainCoverModel_RainCoverModel_stands__II_Z_RainCoverModel_stands__II_Z ⟨⟨by decide, by decide⟩, ⟨by decide, by decide⟩⟩ (Nat.le_of_ble_eq_true rfl) (fun v15 => ?_)
  refine a_if_eq 85 dX12_gaugeOf_72 (by decide) (fun c16 => ?_) (fun c16 => ?_)
  · refine a_pick (lc2 := [(0, .ref x0), (1, .int x1), (2, .int x2), (3, .int x3), (4, .int x4)]) [1, 2, 3, 4, 5] rfl ?_
    exact t_X12_gaugeOf_b85 h N K5 hK5 x0 x1 x2 x3 x4
  · refine a_iload dX12_gaugeOf_75 0 rfl ?_
    refine a_if_eq 85 dX12_gaugeOf_77 (by decide) (fun c17 => ?_) (fun c17 => ?_)
    · refine a_pick (lc2 := [(0, .ref x0), (1, .int x1), (2, .int x2), (3, .int x3), (4, .int x4)]) [1, 2, 3, 4, 5] rfl ?_
      exact t_X12_gaugeOf_b85 h N K5 hK5 x0 x1 x2 x3 x4
    · refine a_iload dX12_gaugeOf_80 5 rfl ?_
      refine a_goto 86 dX12_gaugeOf_82 (by decide) ?_
      refine a_pick (lc2 := [(0, .ref x0), (1, .int x1), (2, .int x2), (4, .int x4)]) [1, 2, 3, 5] rfl ?_
      exact t_X12_gaugeOf_b86 h N K5 hK5 x0 x1 x2 x4 x4
set_option maxRecDepth 100000 in
set_option maxHeartbeats 4000000 in
theorem t_X12_gaugeOf_b58 (h : AH) (N : Nat) (K5 : Nat → Int32 → Int32 → Int32 → Int32 → Option Int32) (hK5 : ∀ (z0 : Nat) (z1 : Int32) (z2 : Int32) (z3 : Int32) (z4 : Int32), AO l g M_X12_gaugeOf false h 5 [(0, .ref z0), (1, .int z1), (2, .int z2), (3, .int z3), (4, .int z4)] [] h 0 0 (rPi h) (K5 z0 z1 z2 z3 z4)) (x0 : Nat) (x1 : Int32) (x2 : Int32) (x3 : Int32) (x4 : Int32) : AO l g M_X12_gaugeOf false h 58 [(0, .ref x0), (1, .int x1), (2, .int x2), (3, .int x3), (4, .int x4)] [] h 0 0 (rPi h) (f_X12_gaugeOf_b58 h N K5 x0 x1 x2 x3 x4) := by
  unfold f_X12_gaugeOf_b58
  refine a_iconst (v := 1) dX12_gaugeOf_58 (by decide) ?_
  refine a_goto 63 dX12_gaugeOf_59 (by decide) ?_
  exact t_X12_gaugeOf_b63 h N K5 hK5 x0 x1 x2 x3 x4 1
set_option maxRecDepth 100000 in
set_option maxHeartbeats 4000000 in
theorem t_X12_gaugeOf_b5_body (h : AH) (N : Nat) (K5 : Nat → Int32 → Int32 → Int32 → Int32 → Option Int32) (hK5 : ∀ (z0 : Nat) (z1 : Int32) (z2 : Int32) (z3 : Int32) (z4 : Int32), AO l g M_X12_gaugeOf false h 5 [(0, .ref z0), (1, .int z1), (2, .int z2), (3, .int z3), (4, .int z4)] [] h 0 0 (rPi h) (K5 z0 z1 z2 z3 z4)) (x0 : Nat) (x1 : Int32) (x2 : Int32) (x3 : Int32) (x4 : Int32) : AO l g M_X12_gaugeOf false h 5 [(0, .ref x0), (1, .int x1), (2, .int x2), (3, .int x3), (4, .int x4)] [] h 0 0 (rPi h) (f_X12_gaugeOf_b5_body h N K5 x0 x1 x2 x3 x4) := by
  unfold f_X12_gaugeOf_b5_body
  refine a_iload dX12_gaugeOf_5 4 rfl ?_
  refine a_aload_n dX12_gaugeOf_7 rfl 0 rfl ?_
  refine a_geti kc13 0 dX12_gaugeOf_8 (by decide) rfl w_fieldLink_RainCoverModel_208 (fun v1 => ?_)
  refine a_icmp_ge 93 dX12_gaugeOf_11 (by decide) (fun c2 => ?_) (fun c2 => ?_)
  · refine a_iload_n dX12_gaugeOf_93 rfl 3 rfl ?_
    exact a_iret dX12_gaugeOf_94 rfl rfl (by decide) (by decide)
  · refine a_iload_n dX12_gaugeOf_14 rfl 3 rfl ?_
    refine a_iconst (v := (-1)) dX12_gaugeOf_15 (by decide) ?_
    refine a_icmp_eq 58 dX12_gaugeOf_16 (by decide) (fun c3 => ?_) (fun c3 => ?_)
    · exact t_X12_gaugeOf_b58 h N K5 hK5 x0 x1 x2 x3 x4
    · refine a_aload_n dX12_gaugeOf_19 rfl 0 rfl ?_
      refine a_iload_n dX12_gaugeOf_20 rfl 1 rfl ?_
      refine a_aload_n dX12_gaugeOf_21 rfl 0 rfl ?_
      refine a_getr kc13 1 dX12_gaugeOf_22 (by decide) rfl w_fieldLink_RainCoverModel_9 (fun v4 => ?_)
      refine a_iload dX12_gaugeOf_25 4 rfl ?_
      refine a_iald dX12_gaugeOf_27 (fun v5 => ?_)
      refine a_aload_n dX12_gaugeOf_28 rfl 0 rfl ?_
      refine a_getr kc13 2 dX12_gaugeOf_29 (by decide) rfl w_fieldLink_RainCoverModel_15 (fun v6 => ?_)
      refine a_iload dX12_gaugeOf_32 4 rfl ?_
      refine a_iald dX12_gaugeOf_34 (fun v7 => ?_)
      refine a_cV_Pi (r := x0) (ci := 13) (as := [.int x1, .int v5, .int v7]) (st := []) dX12_gaugeOf_35 (c_X12_farFrom l g h x0 x1 v5 v7) rfl km_X12_farFrom (hm_X12_farFrom) rfl (by decide) rfl (fun _ ee => g_X12_farFrom ee) w_methodLink_RainCoverModel_334 w_instanceMethod_RainCoverModel_farFrom__III_I w_selects_RainCoverModel_RainCoverModel_farFrom__III_I_RainCoverModel_farFrom__III_I ⟨⟨by decide, by decide⟩, ⟨by decide, by decide⟩⟩ (Nat.le_of_ble_eq_true rfl) (fun v8 => ?_)
      refine a_aload_n dX12_gaugeOf_38 rfl 0 rfl ?_
      refine a_iload_n dX12_gaugeOf_39 rfl 1 rfl ?_
      refine a_aload_n dX12_gaugeOf_40 rfl 0 rfl ?_
      refine a_getr kc13 1 dX12_gaugeOf_41 (by decide) rfl w_fieldLink_RainCoverModel_9 (fun v9 => ?_)
      refine a_iload_n dX12_gaugeOf_44 rfl 3 rfl ?_
      refine a_iald dX12_gaugeOf_45 (fun v10 => ?_)
      refine a_aload_n dX12_gaugeOf_46 rfl 0 rfl ?_
      refine a_getr kc13 2 dX12_gaugeOf_47 (by decide) rfl w_fieldLink_RainCoverModel_15 (fun v11 => ?_)
      refine a_iload_n dX12_gaugeOf_50 rfl 3 rfl ?_
      refine a_iald dX12_gaugeOf_51 (fun v12 => ?_)
      refine a_cV_Pi (r := x0) (ci := 13) (as := [.int x1, .int v10, .int v12]) (st := [.int v8]) dX12_gaugeOf_52 (c_X12_farFrom l g h x0 x1 v10 v12) rfl km_X12_farFrom (hm_X12_farFrom) rfl (by decide) rfl (fun _ ee => g_X12_farFrom ee) w_methodLink_RainCoverModel_334 w_instanceMethod_RainCoverModel_farFrom__III_I w_selects_RainCoverModel_RainCoverModel_farFrom__III_I_RainCoverModel_farFrom__III_I ⟨⟨by decide, by decide⟩, ⟨by decide, by decide⟩⟩ (Nat.le_of_ble_eq_true rfl) (fun v13 => ?_)
      refine a_icmp_ge 62 dX12_gaugeOf_55 (by decide) (fun c14 => ?_) (fun c14 => ?_)
      · refine a_iconst (v := 0) dX12_gaugeOf_62 (by decide) ?_
        exact t_X12_gaugeOf_b63 h N K5 hK5 x0 x1 x2 x3 x4 0
      · exact t_X12_gaugeOf_b58 h N K5 hK5 x0 x1 x2 x3 x4
set_option maxRecDepth 100000 in
set_option maxHeartbeats 4000000 in
theorem t_X12_gaugeOf_b5 (h : AH) (N : Nat) : ∀ (n : Nat) (x0 : Nat) (x1 : Int32) (x2 : Int32) (x3 : Int32) (x4 : Int32) , AO l g M_X12_gaugeOf false h 5 [(0, .ref x0), (1, .int x1), (2, .int x2), (3, .int x3), (4, .int x4)] [] h 0 0 (rPi h) (f_X12_gaugeOf_b5 h N  n x0 x1 x2 x3 x4) := by
  intro n
  induction n with
  | zero => intro x0 x1 x2 x3 x4; exact a_eq rfl a_none
  | succ n ih => intro x0 x1 x2 x3 x4; exact a_eq rfl (t_X12_gaugeOf_b5_body h N  (f_X12_gaugeOf_b5 h N  n) ih x0 x1 x2 x3 x4)
end
set_option maxRecDepth 100000 in
set_option maxHeartbeats 4000000 in
theorem c_X12_gaugeOf (l : Launch) (g : GG) (h : AH) (N : Nat) (p0 : Nat) (p1 : Int32) (p2 : Int32) : CN l g yX12_gaugeOf M_X12_gaugeOf false [.ref p0, .int p1, .int p2] h ((rPi h)) (f_X12_gaugeOf h N p0 p1 p2) := by
  refine CN.of (by decide) rfl (fun hh => by first | rfl | cases hh) (Nat.le_of_ble_eq_true rfl) ?_
  unfold f_X12_gaugeOf
  refine a_gd (fun hkd => ?_)
  refine a_iconst (v := (-1)) dX12_gaugeOf_0 (by decide) ?_
  refine a_istore_n (lc2 := [(3, .int (-1)), (0, .ref p0), (1, .int p1), (2, .int p2)]) dX12_gaugeOf_1 rfl (by decide) rfl ?_
  refine a_iconst (v := 0) dX12_gaugeOf_2 (by decide) ?_
  refine a_istore (lc2 := [(4, .int 0), (3, .int (-1)), (0, .ref p0), (1, .int p1), (2, .int p2)]) dX12_gaugeOf_3 (by decide) rfl ?_
  refine a_pick (lc2 := [(0, .ref p0), (1, .int p1), (2, .int p2), (3, .int (-1)), (4, .int 0)]) [2, 3, 4, 1, 0] rfl ?_
  exact t_X12_gaugeOf_b5 h N N p0 p1 p2 (-1) 0
theorem dX12_coverOf_0 : decode cX12_coverOf 0 = .ok (.iconst 0, 1) := by decide +kernel
theorem dX12_coverOf_1 : decode cX12_coverOf 1 = .ok (.istore_n 3, 1) := by decide +kernel
theorem dX12_coverOf_2 : decode cX12_coverOf 2 = .ok (.iload_n 3, 1) := by decide +kernel
theorem dX12_coverOf_3 : decode cX12_coverOf 3 = .ok (.aload_n 0, 1) := by decide +kernel
theorem dX12_coverOf_4 : decode cX12_coverOf 4 = .ok (.getfield 340, 3) := by decide +kernel
theorem dX12_coverOf_7 : decode cX12_coverOf 7 = .ok (.if_icmp .ge 41, 3) := by decide +kernel
theorem dX12_coverOf_10 : decode cX12_coverOf 10 = .ok (.aload_n 0, 1) := by decide +kernel
theorem dX12_coverOf_11 : decode cX12_coverOf 11 = .ok (.getfield 109, 3) := by decide +kernel
theorem dX12_coverOf_14 : decode cX12_coverOf 14 = .ok (.iload_n 3, 1) := by decide +kernel
theorem dX12_coverOf_15 : decode cX12_coverOf 15 = .ok (.iaload, 1) := by decide +kernel
theorem dX12_coverOf_16 : decode cX12_coverOf 16 = .ok (.iload_n 1, 1) := by decide +kernel
theorem dX12_coverOf_17 : decode cX12_coverOf 17 = .ok (.if_icmp .ne 25, 3) := by decide +kernel
theorem dX12_coverOf_20 : decode cX12_coverOf 20 = .ok (.aload_n 0, 1) := by decide +kernel
theorem dX12_coverOf_21 : decode cX12_coverOf 21 = .ok (.getfield 115, 3) := by decide +kernel
theorem dX12_coverOf_24 : decode cX12_coverOf 24 = .ok (.iload_n 3, 1) := by decide +kernel
theorem dX12_coverOf_25 : decode cX12_coverOf 25 = .ok (.iaload, 1) := by decide +kernel
theorem dX12_coverOf_26 : decode cX12_coverOf 26 = .ok (.iload_n 2, 1) := by decide +kernel
theorem dX12_coverOf_27 : decode cX12_coverOf 27 = .ok (.if_icmp .gt 15, 3) := by decide +kernel
theorem dX12_coverOf_30 : decode cX12_coverOf 30 = .ok (.iload_n 2, 1) := by decide +kernel
theorem dX12_coverOf_31 : decode cX12_coverOf 31 = .ok (.aload_n 0, 1) := by decide +kernel
theorem dX12_coverOf_32 : decode cX12_coverOf 32 = .ok (.getfield 118, 3) := by decide +kernel
theorem dX12_coverOf_35 : decode cX12_coverOf 35 = .ok (.iload_n 3, 1) := by decide +kernel
theorem dX12_coverOf_36 : decode cX12_coverOf 36 = .ok (.iaload, 1) := by decide +kernel
theorem dX12_coverOf_37 : decode cX12_coverOf 37 = .ok (.if_icmp .ge 5, 3) := by decide +kernel
theorem dX12_coverOf_40 : decode cX12_coverOf 40 = .ok (.iload_n 3, 1) := by decide +kernel
theorem dX12_coverOf_41 : decode cX12_coverOf 41 = .ok (.ireturn, 1) := by decide +kernel
theorem dX12_coverOf_42 : decode cX12_coverOf 42 = .ok (.iinc 3 1, 3) := by decide +kernel
theorem dX12_coverOf_45 : decode cX12_coverOf 45 = .ok (.goto (-43), 3) := by decide +kernel
theorem dX12_coverOf_48 : decode cX12_coverOf 48 = .ok (.iconst (-1), 1) := by decide +kernel
theorem dX12_coverOf_49 : decode cX12_coverOf 49 = .ok (.ireturn, 1) := by decide +kernel
abbrev M_X12_coverOf : MI := (RX12, cX12_coverOf, 4, (some .int), ({ frames := 0, cells := 0, slots := 0, locals := 0 } : Room), 0, 0, false)
def f_X12_coverOf_b42 (h : AH) (N : Nat) (K2 : Nat → Int32 → Int32 → Int32 → Option Int32) (x0 : Nat) (x1 : Int32) (x2 : Int32) (x3 : Int32) : Option Int32 := K2 x0 x1 x2 (x3 + 1)
def f_X12_coverOf_b2_body (h : AH) (N : Nat) (K2 : Nat → Int32 → Int32 → Int32 → Option Int32) (x0 : Nat) (x1 : Int32) (x2 : Int32) (x3 : Int32) : Option Int32 := (xgi h x0 13 36).bind fun v1 => (if v1 ≤ x3 then some (-1) else (xgr h x0 13 37).bind fun v3 => (xia h v3 x3).bind fun v4 => (if v4 = x1 then (xgr h x0 13 39).bind fun v6 => (xia h v6 x3).bind fun v7 => (if x2 < v7 then f_X12_coverOf_b42 h N K2 x0 x1 x2 x3 else (xgr h x0 13 40).bind fun v9 => (xia h v9 x3).bind fun v10 => (if v10 ≤ x2 then f_X12_coverOf_b42 h N K2 x0 x1 x2 x3 else some x3)) else f_X12_coverOf_b42 h N K2 x0 x1 x2 x3))
def f_X12_coverOf_b2 (h : AH) (N : Nat) : Nat → Nat → Int32 → Int32 → Int32 → Option Int32
  | 0, _, _, _, _ => none
  | n + 1, x0, x1, x2, x3 => f_X12_coverOf_b2_body h N  (f_X12_coverOf_b2 h N  n) x0 x1 x2 x3
def f_X12_coverOf (h : AH) (N : Nat) (p0 : Nat) (p1 : Int32) (p2 : Int32) : Option Int32 := if kd h p0 = 13 + 1 then f_X12_coverOf_b2 h N N p0 p1 p2 0 else none
theorem g_X12_coverOf {h : AH} {N : Nat} {p0 : Nat} {p1 : Int32} {p2 : Int32} {x : Int32} (e : f_X12_coverOf h N p0 p1 p2 = some x) : kd h p0 = 13 + 1 := by
  unfold f_X12_coverOf at e
  by_cases hk : kd h p0 = 13 + 1
  · exact hk
  · rw [if_neg hk] at e
    cases e
theorem km_X12_coverOf : KM yX12_coverOf M_X12_coverOf 2 := ⟨in_tb 1620 (by decide +kernel) rfl, in_tb 9 (by decide +kernel) rfl, by decide +kernel, rfl, rfl⟩
theorem hm_X12_coverOf : M_X12_coverOf.2.2.2.2.2.1 = 0 ∧ M_X12_coverOf.2.2.2.2.2.2.1 = 0 := ⟨rfl, rfl⟩
section
variable {l : Launch} {g : GG}
set_option maxRecDepth 100000 in
set_option maxHeartbeats 4000000 in
theorem t_X12_coverOf_b42 (h : AH) (N : Nat) (K2 : Nat → Int32 → Int32 → Int32 → Option Int32) (hK2 : ∀ (z0 : Nat) (z1 : Int32) (z2 : Int32) (z3 : Int32), AO l g M_X12_coverOf false h 2 [(0, .ref z0), (1, .int z1), (2, .int z2), (3, .int z3)] [] h 0 0 (rPi h) (K2 z0 z1 z2 z3)) (x0 : Nat) (x1 : Int32) (x2 : Int32) (x3 : Int32) : AO l g M_X12_coverOf false h 42 [(0, .ref x0), (1, .int x1), (2, .int x2), (3, .int x3)] [] h 0 0 (rPi h) (f_X12_coverOf_b42 h N K2 x0 x1 x2 x3) := by
  unfold f_X12_coverOf_b42
  refine a_iinc (q := 3) (v := (x3 + 1)) (lc2 := [(3, .int (x3 + 1)), (0, .ref x0), (1, .int x1), (2, .int x2)]) dX12_coverOf_42 rfl rfl (by decide) rfl ?_
  refine a_goto 2 dX12_coverOf_45 (by decide) ?_
  refine a_pick (lc2 := [(0, .ref x0), (1, .int x1), (2, .int x2), (3, .int (x3 + 1))]) [1, 2, 3, 0] rfl ?_
  exact hK2 x0 x1 x2 (x3 + 1)
set_option maxRecDepth 100000 in
set_option maxHeartbeats 4000000 in
theorem t_X12_coverOf_b2_body (h : AH) (N : Nat) (K2 : Nat → Int32 → Int32 → Int32 → Option Int32) (hK2 : ∀ (z0 : Nat) (z1 : Int32) (z2 : Int32) (z3 : Int32), AO l g M_X12_coverOf false h 2 [(0, .ref z0), (1, .int z1), (2, .int z2), (3, .int z3)] [] h 0 0 (rPi h) (K2 z0 z1 z2 z3)) (x0 : Nat) (x1 : Int32) (x2 : Int32) (x3 : Int32) : AO l g M_X12_coverOf false h 2 [(0, .ref x0), (1, .int x1), (2, .int x2), (3, .int x3)] [] h 0 0 (rPi h) (f_X12_coverOf_b2_body h N K2 x0 x1 x2 x3) := by
  unfold f_X12_coverOf_b2_body
  refine a_iload_n dX12_coverOf_2 rfl 3 rfl ?_
  refine a_aload_n dX12_coverOf_3 rfl 0 rfl ?_
  refine a_geti kc13 36 dX12_coverOf_4 (by decide) rfl w_fieldLink_RainCoverModel_340 (fun v1 => ?_)
  refine a_icmp_ge 48 dX12_coverOf_7 (by decide) (fun c2 => ?_) (fun c2 => ?_)
  · refine a_iconst (v := (-1)) dX12_coverOf_48 (by decide) ?_
    exact a_iret dX12_coverOf_49 rfl rfl (by decide) (by decide)
  · refine a_aload_n dX12_coverOf_10 rfl 0 rfl ?_
    refine a_getr kc13 37 dX12_coverOf_11 (by decide) rfl w_fieldLink_RainCoverModel_109 (fun v3 => ?_)
    refine a_iload_n dX12_coverOf_14 rfl 3 rfl ?_
    refine a_iald dX12_coverOf_15 (fun v4 => ?_)
    refine a_iload_n dX12_coverOf_16 rfl 1 rfl ?_
    refine a_icmp_ne 42 dX12_coverOf_17 (by decide) (fun c5 => ?_) (fun c5 => ?_)
    · refine a_aload_n dX12_coverOf_20 rfl 0 rfl ?_
      refine a_getr kc13 39 dX12_coverOf_21 (by decide) rfl w_fieldLink_RainCoverModel_115 (fun v6 => ?_)
      refine a_iload_n dX12_coverOf_24 rfl 3 rfl ?_
      refine a_iald dX12_coverOf_25 (fun v7 => ?_)
      refine a_iload_n dX12_coverOf_26 rfl 2 rfl ?_
      refine a_icmp_gt 42 dX12_coverOf_27 (by decide) (fun c8 => ?_) (fun c8 => ?_)
      · exact t_X12_coverOf_b42 h N K2 hK2 x0 x1 x2 x3
      · refine a_iload_n dX12_coverOf_30 rfl 2 rfl ?_
        refine a_aload_n dX12_coverOf_31 rfl 0 rfl ?_
        refine a_getr kc13 40 dX12_coverOf_32 (by decide) rfl w_fieldLink_RainCoverModel_118 (fun v9 => ?_)
        refine a_iload_n dX12_coverOf_35 rfl 3 rfl ?_
        refine a_iald dX12_coverOf_36 (fun v10 => ?_)
        refine a_icmp_ge 42 dX12_coverOf_37 (by decide) (fun c11 => ?_) (fun c11 => ?_)
        · exact t_X12_coverOf_b42 h N K2 hK2 x0 x1 x2 x3
        · refine a_iload_n dX12_coverOf_40 rfl 3 rfl ?_
          exact a_iret dX12_coverOf_41 rfl rfl (by decide) (by decide)
    · exact t_X12_coverOf_b42 h N K2 hK2 x0 x1 x2 x3
set_option maxRecDepth 100000 in
set_option maxHeartbeats 4000000 in
theorem t_X12_coverOf_b2 (h : AH) (N : Nat) : ∀ (n : Nat) (x0 : Nat) (x1 : Int32) (x2 : Int32) (x3 : Int32) , AO l g M_X12_coverOf false h 2 [(0, .ref x0), (1, .int x1), (2, .int x2), (3, .int x3)] [] h 0 0 (rPi h) (f_X12_coverOf_b2 h N  n x0 x1 x2 x3) := by
  intro n
  induction n with
  | zero => intro x0 x1 x2 x3; exact a_eq rfl a_none
  | succ n ih => intro x0 x1 x2 x3; exact a_eq rfl (t_X12_coverOf_b2_body h N  (f_X12_coverOf_b2 h N  n) ih x0 x1 x2 x3)
end
set_option maxRecDepth 100000 in
set_option maxHeartbeats 4000000 in
theorem c_X12_coverOf (l : Launch) (g : GG) (h : AH) (N : Nat) (p0 : Nat) (p1 : Int32) (p2 : Int32) : CN l g yX12_coverOf M_X12_coverOf false [.ref p0, .int p1, .int p2] h ((rPi h)) (f_X12_coverOf h N p0 p1 p2) := by
  refine CN.of (by decide) rfl (fun hh => by first | rfl | cases hh) (Nat.le_of_ble_eq_true rfl) ?_
  unfold f_X12_coverOf
  refine a_gd (fun hkd => ?_)
  refine a_iconst (v := 0) dX12_coverOf_0 (by decide) ?_
  refine a_istore_n (lc2 := [(3, .int 0), (0, .ref p0), (1, .int p1), (2, .int p2)]) dX12_coverOf_1 rfl (by decide) rfl ?_
  refine a_pick (lc2 := [(0, .ref p0), (1, .int p1), (2, .int p2), (3, .int 0)]) [1, 2, 3, 0] rfl ?_
  exact t_X12_coverOf_b2 h N N p0 p1 p2 0
theorem dX12_termOf_0 : decode cX12_termOf 0 = .ok (.aload_n 0, 1) := by decide +kernel
theorem dX12_termOf_1 : decode cX12_termOf 1 = .ok (.iload_n 1, 1) := by decide +kernel
theorem dX12_termOf_2 : decode cX12_termOf 2 = .ok (.iload_n 2, 1) := by decide +kernel
theorem dX12_termOf_3 : decode cX12_termOf 3 = .ok (.invokevirtual 343, 3) := by decide +kernel
theorem dX12_termOf_6 : decode cX12_termOf 6 = .ok (.istore_n 3, 1) := by decide +kernel
theorem dX12_termOf_7 : decode cX12_termOf 7 = .ok (.iload_n 3, 1) := by decide +kernel
theorem dX12_termOf_8 : decode cX12_termOf 8 = .ok (.iconst (-1), 1) := by decide +kernel
theorem dX12_termOf_9 : decode cX12_termOf 9 = .ok (.if_icmp .ne 7, 3) := by decide +kernel
theorem dX12_termOf_12 : decode cX12_termOf 12 = .ok (.iconst (-1), 1) := by decide +kernel
theorem dX12_termOf_13 : decode cX12_termOf 13 = .ok (.goto 9, 3) := by decide +kernel
theorem dX12_termOf_16 : decode cX12_termOf 16 = .ok (.aload_n 0, 1) := by decide +kernel
theorem dX12_termOf_17 : decode cX12_termOf 17 = .ok (.getfield 112, 3) := by decide +kernel
theorem dX12_termOf_20 : decode cX12_termOf 20 = .ok (.iload_n 3, 1) := by decide +kernel
theorem dX12_termOf_21 : decode cX12_termOf 21 = .ok (.iaload, 1) := by decide +kernel
theorem dX12_termOf_22 : decode cX12_termOf 22 = .ok (.ireturn, 1) := by decide +kernel
abbrev M_X12_termOf : MI := (RX12, cX12_termOf, 4, (some .int), ({ frames := 1, cells := 0, slots := 0, locals := 23 } : Room), 0, 0, false)
def f_X12_termOf (h : AH) (N : Nat) (p0 : Nat) (p1 : Int32) (p2 : Int32) : Option Int32 := if kd h p0 = 13 + 1 then (f_X12_coverOf h N p0 p1 p2).bind fun v1 => (if v1 = (-1) then some (-1) else (xgr h p0 13 38).bind fun v3 => (xia h v3 v1).bind fun v4 => some v4) else none
theorem g_X12_termOf {h : AH} {N : Nat} {p0 : Nat} {p1 : Int32} {p2 : Int32} {x : Int32} (e : f_X12_termOf h N p0 p1 p2 = some x) : kd h p0 = 13 + 1 := by
  unfold f_X12_termOf at e
  by_cases hk : kd h p0 = 13 + 1
  · exact hk
  · rw [if_neg hk] at e
    cases e
theorem km_X12_termOf : KM yX12_termOf M_X12_termOf 2 := ⟨in_tb 1644 (by decide +kernel) rfl, in_tb 9 (by decide +kernel) rfl, by decide +kernel, rfl, rfl⟩
theorem hm_X12_termOf : M_X12_termOf.2.2.2.2.2.1 = 0 ∧ M_X12_termOf.2.2.2.2.2.2.1 = 0 := ⟨rfl, rfl⟩
section
variable {l : Launch} {g : GG}
end
set_option maxRecDepth 100000 in
set_option maxHeartbeats 4000000 in
theorem c_X12_termOf (l : Launch) (g : GG) (h : AH) (N : Nat) (p0 : Nat) (p1 : Int32) (p2 : Int32) : CN l g yX12_termOf M_X12_termOf false [.ref p0, .int p1, .int p2] h ((rPi h)) (f_X12_termOf h N p0 p1 p2) := by
  refine CN.of (by decide) rfl (fun hh => by first | rfl | cases hh) (Nat.le_of_ble_eq_true rfl) ?_
  unfold f_X12_termOf
  refine a_gd (fun hkd => ?_)
  refine a_aload_n dX12_termOf_0 rfl 0 rfl ?_
  refine a_iload_n dX12_termOf_1 rfl 1 rfl ?_
  refine a_iload_n dX12_termOf_2 rfl 2 rfl ?_
  refine a_cV_Pi (r := p0) (ci := 13) (as := [.int p1, .int p2]) (st := []) dX12_termOf_3 (c_X12_coverOf l g h N p0 p1 p2) rfl km_X12_coverOf (hm_X12_coverOf) rfl (by decide) rfl (fun _ ee => g_X12_coverOf ee) w_methodLink_RainCoverModel_343 w_instanceMethod_RainCoverModel_coverOf__II_I w_selects_RainCoverModel_RainCoverModel_coverOf__II_I_RainCoverModel_coverOf__II_I ⟨⟨by decide, by decide⟩, ⟨by decide, by decide⟩⟩ (Nat.le_of_ble_eq_true rfl) (fun v1 => ?_)
  refine a_istore_n (lc2 := [(3, .int v1), (0, .ref p0), (1, .int p1), (2, .int p2)]) dX12_termOf_6 rfl (by decide) rfl ?_
  refine a_iload_n dX12_termOf_7 rfl 0 rfl ?_
  refine a_iconst (v := (-1)) dX12_termOf_8 (by decide) ?_
  refine a_icmp_ne 16 dX12_termOf_9 (by decide) (fun c2 => ?_) (fun c2 => ?_)
  · refine a_iconst (v := (-1)) dX12_termOf_12 (by decide) ?_
    refine a_goto 22 dX12_termOf_13 (by decide) ?_
    exact a_iret dX12_termOf_22 rfl rfl (by decide) (by decide)
  · refine a_aload_n dX12_termOf_16 rfl 1 rfl ?_
    refine a_getr kc13 38 dX12_termOf_17 (by decide) rfl w_fieldLink_RainCoverModel_112 (fun v3 => ?_)
    refine a_iload_n dX12_termOf_20 rfl 0 rfl ?_
    refine a_iald dX12_termOf_21 (fun v4 => ?_)
    exact a_iret dX12_termOf_22 rfl rfl (by decide) (by decide)
