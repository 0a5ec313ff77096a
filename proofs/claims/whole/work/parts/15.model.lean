theorem dX12_incomeOf_0 : decode cX12_incomeOf 0 = .ok (.iconst 0, 1) := by decide +kernel
theorem dX12_incomeOf_1 : decode cX12_incomeOf 1 = .ok (.istore_n 2, 1) := by decide +kernel
theorem dX12_incomeOf_2 : decode cX12_incomeOf 2 = .ok (.iconst 0, 1) := by decide +kernel
theorem dX12_incomeOf_3 : decode cX12_incomeOf 3 = .ok (.istore_n 3, 1) := by decide +kernel
theorem dX12_incomeOf_4 : decode cX12_incomeOf 4 = .ok (.iload_n 3, 1) := by decide +kernel
theorem dX12_incomeOf_5 : decode cX12_incomeOf 5 = .ok (.aload_n 0, 1) := by decide +kernel
theorem dX12_incomeOf_6 : decode cX12_incomeOf 6 = .ok (.getfield 214, 3) := by decide +kernel
theorem dX12_incomeOf_9 : decode cX12_incomeOf 9 = .ok (.if_icmp .ge 70, 3) := by decide +kernel
theorem dX12_incomeOf_12 : decode cX12_incomeOf 12 = .ok (.aload_n 0, 1) := by decide +kernel
theorem dX12_incomeOf_13 : decode cX12_incomeOf 13 = .ok (.iload_n 3, 1) := by decide +kernel
theorem dX12_incomeOf_14 : decode cX12_incomeOf 14 = .ok (.iload_n 1, 1) := by decide +kernel
theorem dX12_incomeOf_15 : decode cX12_incomeOf 15 = .ok (.invokevirtual 355, 3) := by decide +kernel
theorem dX12_incomeOf_18 : decode cX12_incomeOf 18 = .ok (.istore 4, 2) := by decide +kernel
theorem dX12_incomeOf_20 : decode cX12_incomeOf 20 = .ok (.aload_n 0, 1) := by decide +kernel
theorem dX12_incomeOf_21 : decode cX12_incomeOf 21 = .ok (.iload_n 3, 1) := by decide +kernel
theorem dX12_incomeOf_22 : decode cX12_incomeOf 22 = .ok (.iload_n 1, 1) := by decide +kernel
theorem dX12_incomeOf_23 : decode cX12_incomeOf 23 = .ok (.invokevirtual 349, 3) := by decide +kernel
theorem dX12_incomeOf_26 : decode cX12_incomeOf 26 = .ok (.istore 5, 2) := by decide +kernel
theorem dX12_incomeOf_28 : decode cX12_incomeOf 28 = .ok (.iload_n 2, 1) := by decide +kernel
theorem dX12_incomeOf_29 : decode cX12_incomeOf 29 = .ok (.iload 4, 2) := by decide +kernel
theorem dX12_incomeOf_31 : decode cX12_incomeOf 31 = .ok (.iconst (-1), 1) := by decide +kernel
theorem dX12_incomeOf_32 : decode cX12_incomeOf 32 = .ok (.if_icmp .eq 9, 3) := by decide +kernel
theorem dX12_incomeOf_35 : decode cX12_incomeOf 35 = .ok (.iload 5, 2) := by decide +kernel
theorem dX12_incomeOf_37 : decode cX12_incomeOf 37 = .ok (.iconst (-1), 1) := by decide +kernel
theorem dX12_incomeOf_38 : decode cX12_incomeOf 38 = .ok (.if_icmp .ne 7, 3) := by decide +kernel
theorem dX12_incomeOf_41 : decode cX12_incomeOf 41 = .ok (.iconst 0, 1) := by decide +kernel
theorem dX12_incomeOf_42 : decode cX12_incomeOf 42 = .ok (.goto 29, 3) := by decide +kernel
theorem dX12_incomeOf_45 : decode cX12_incomeOf 45 = .ok (.aload_n 0, 1) := by decide +kernel
theorem dX12_incomeOf_46 : decode cX12_incomeOf 46 = .ok (.getfield 91, 3) := by decide +kernel
theorem dX12_incomeOf_49 : decode cX12_incomeOf 49 = .ok (.iload_n 3, 1) := by decide +kernel
theorem dX12_incomeOf_50 : decode cX12_incomeOf 50 = .ok (.iaload, 1) := by decide +kernel
theorem dX12_incomeOf_51 : decode cX12_incomeOf 51 = .ok (.aload_n 0, 1) := by decide +kernel
theorem dX12_incomeOf_52 : decode cX12_incomeOf 52 = .ok (.iload 4, 2) := by decide +kernel
theorem dX12_incomeOf_54 : decode cX12_incomeOf 54 = .ok (.iload 5, 2) := by decide +kernel
theorem dX12_incomeOf_56 : decode cX12_incomeOf 56 = .ok (.aload_n 0, 1) := by decide +kernel
theorem dX12_incomeOf_57 : decode cX12_incomeOf 57 = .ok (.iload_n 3, 1) := by decide +kernel
theorem dX12_incomeOf_58 : decode cX12_incomeOf 58 = .ok (.invokevirtual 352, 3) := by decide +kernel
theorem dX12_incomeOf_61 : decode cX12_incomeOf 61 = .ok (.aload_n 0, 1) := by decide +kernel
theorem dX12_incomeOf_62 : decode cX12_incomeOf 62 = .ok (.getfield 88, 3) := by decide +kernel
theorem dX12_incomeOf_65 : decode cX12_incomeOf 65 = .ok (.iload_n 3, 1) := by decide +kernel
theorem dX12_incomeOf_66 : decode cX12_incomeOf 66 = .ok (.iaload, 1) := by decide +kernel
theorem dX12_incomeOf_67 : decode cX12_incomeOf 67 = .ok (.invokevirtual 404, 3) := by decide +kernel
theorem dX12_incomeOf_70 : decode cX12_incomeOf 70 = .ok (.imul, 1) := by decide +kernel
theorem dX12_incomeOf_71 : decode cX12_incomeOf 71 = .ok (.iadd, 1) := by decide +kernel
theorem dX12_incomeOf_72 : decode cX12_incomeOf 72 = .ok (.istore_n 2, 1) := by decide +kernel
theorem dX12_incomeOf_73 : decode cX12_incomeOf 73 = .ok (.iinc 3 1, 3) := by decide +kernel
theorem dX12_incomeOf_76 : decode cX12_incomeOf 76 = .ok (.goto (-72), 3) := by decide +kernel
theorem dX12_incomeOf_79 : decode cX12_incomeOf 79 = .ok (.iload_n 2, 1) := by decide +kernel
theorem dX12_incomeOf_80 : decode cX12_incomeOf 80 = .ok (.ireturn, 1) := by decide +kernel
abbrev M_X12_incomeOf : MI := (RX12, cX12_incomeOf, 6, (some .int), ({ frames := 9, cells := 0, slots := 0, locals := 230 } : Room), 0, 0, false)
def f_X12_incomeOf_b71 (h : AH) (N : Nat) (K4 : Nat → Int32 → Int32 → Int32 → Option Int32) (x0 : Nat) (x1 : Int32) (x3 : Int32) (s3 : Int32) (s4 : Int32) : Option Int32 := K4 x0 x1 (s4 + s3) (x3 + 1)
def f_X12_incomeOf_b41 (h : AH) (N : Nat) (K4 : Nat → Int32 → Int32 → Int32 → Option Int32) (x0 : Nat) (x1 : Int32) (x3 : Int32) (s3 : Int32) : Option Int32 := f_X12_incomeOf_b71 h N K4 x0 x1 x3 0 s3
def f_X12_incomeOf_b4_body (h : AH) (N : Nat) (K4 : Nat → Int32 → Int32 → Int32 → Option Int32) (x0 : Nat) (x1 : Int32) (x2 : Int32) (x3 : Int32) : Option Int32 := (xgi h x0 13 26).bind fun v1 => (if v1 ≤ x3 then some x2 else (f_X12_termOf h N x0 x3 x1).bind fun v3 => (f_X12_gaugeOf h N x0 x3 x1).bind fun v4 => (if v3 = (-1) then f_X12_incomeOf_b41 h N K4 x0 x1 x3 x2 else (if v4 = (-1) then f_X12_incomeOf_b41 h N K4 x0 x1 x3 x2 else (xgr h x0 13 30).bind fun v7 => (xia h v7 x3).bind fun v8 => (f_X12_plantOf h x0 x3).bind fun v9 => (xgr h x0 13 29).bind fun v10 => (xia h v10 x3).bind fun v11 => (f_X12_priceOf h N x0 v3 v4 v9 v11).bind fun v12 => f_X12_incomeOf_b71 h N K4 x0 x1 x3 (v8 * v12) x2)))
def f_X12_incomeOf_b4 (h : AH) (N : Nat) : Nat → Nat → Int32 → Int32 → Int32 → Option Int32
  | 0, _, _, _, _ => none
  | n + 1, x0, x1, x2, x3 => f_X12_incomeOf_b4_body h N  (f_X12_incomeOf_b4 h N  n) x0 x1 x2 x3
def f_X12_incomeOf (h : AH) (N : Nat) (p0 : Nat) (p1 : Int32) : Option Int32 := if kd h p0 = 13 + 1 then f_X12_incomeOf_b4 h N N p0 p1 0 0 else none
theorem g_X12_incomeOf {h : AH} {N : Nat} {p0 : Nat} {p1 : Int32} {x : Int32} (e : f_X12_incomeOf h N p0 p1 = some x) : kd h p0 = 13 + 1 := by
  unfold f_X12_incomeOf at e
  by_cases hk : kd h p0 = 13 + 1
  · exact hk
  · rw [if_neg hk] at e
    cases e
theorem km_X12_incomeOf : KM yX12_incomeOf M_X12_incomeOf 1 := ⟨in_tb 1750 (by decide +kernel) rfl, in_tb 9 (by decide +kernel) rfl, by decide +kernel, rfl, rfl⟩
theorem hm_X12_incomeOf : M_X12_incomeOf.2.2.2.2.2.1 = 0 ∧ M_X12_incomeOf.2.2.2.2.2.2.1 = 0 := ⟨rfl, rfl⟩
section
variable {l : Launch} {g : GG}
set_option maxRecDepth 100000 in
set_option maxHeartbeats 4000000 in
theorem t_X12_incomeOf_b71 (h : AH) (N : Nat) (K4 : Nat → Int32 → Int32 → Int32 → Option Int32) (hK4 : ∀ (z0 : Nat) (z1 : Int32) (z2 : Int32) (z3 : Int32), AO l g M_X12_incomeOf false h 4 [(0, .ref z0), (1, .int z1), (2, .int z2), (3, .int z3)] [] h 0 0 (rPi h) (K4 z0 z1 z2 z3)) (x0 : Nat) (x1 : Int32) (x3 : Int32) (s3 : Int32) (s4 : Int32) : AO l g M_X12_incomeOf false h 71 [(0, .ref x0), (1, .int x1), (3, .int x3)] [.int s3, .int s4] h 0 0 (rPi h) (f_X12_incomeOf_b71 h N K4 x0 x1 x3 s3 s4) := by
  unfold f_X12_incomeOf_b71
  refine a_iadd dX12_incomeOf_71 ?_
  refine a_istore_n (lc2 := [(2, .int (s4 + s3)), (0, .ref x0), (1, .int x1), (3, .int x3)]) dX12_incomeOf_72 rfl (by decide) rfl ?_
  refine a_iinc (q := 3) (v := (x3 + 1)) (lc2 := [(3, .int (x3 + 1)), (2, .int (s4 + s3)), (0, .ref x0), (1, .int x1)]) dX12_incomeOf_73 rfl rfl (by decide) rfl ?_
  refine a_goto 4 dX12_incomeOf_76 (by decide) ?_
  refine a_pick (lc2 := [(0, .ref x0), (1, .int x1), (2, .int (s4 + s3)), (3, .int (x3 + 1))]) [2, 3, 1, 0] rfl ?_
  exact hK4 x0 x1 (s4 + s3) (x3 + 1)
set_option maxRecDepth 100000 in
set_option maxHeartbeats 4000000 in
theorem t_X12_incomeOf_b41 (h : AH) (N : Nat) (K4 : Nat → Int32 → Int32 → Int32 → Option Int32) (hK4 : ∀ (z0 : Nat) (z1 : Int32) (z2 : Int32) (z3 : Int32), AO l g M_X12_incomeOf false h 4 [(0, .ref z0), (1, .int z1), (2, .int z2), (3, .int z3)] [] h 0 0 (rPi h) (K4 z0 z1 z2 z3)) (x0 : Nat) (x1 : Int32) (x3 : Int32) (s3 : Int32) : AO l g M_X12_incomeOf false h 41 [(0, .ref x0), (1, .int x1), (3, .int x3)] [.int s3] h 0 0 (rPi h) (f_X12_incomeOf_b41 h N K4 x0 x1 x3 s3) := by
  unfold f_X12_incomeOf_b41
  refine a_iconst (v := 0) dX12_incomeOf_41 (by decide) ?_
  refine a_goto 71 dX12_incomeOf_42 (by decide) ?_
  exact t_X12_incomeOf_b71 h N K4 hK4 x0 x1 x3 0 s3
set_option maxRecDepth 100000 in
set_option maxHeartbeats 4000000 in
theorem t_X12_incomeOf_b4_body (h : AH) (N : Nat) (K4 : Nat → Int32 → Int32 → Int32 → Option Int32) (hK4 : ∀ (z0 : Nat) (z1 : Int32) (z2 : Int32) (z3 : Int32), AO l g M_X12_incomeOf false h 4 [(0, .ref z0), (1, .int z1), (2, .int z2), (3, .int z3)] [] h 0 0 (rPi h) (K4 z0 z1 z2 z3)) (x0 : Nat) (x1 : Int32) (x2 : Int32) (x3 : Int32) : AO l g M_X12_incomeOf false h 4 [(0, .ref x0), (1, .int x1), (2, .int x2), (3, .int x3)] [] h 0 0 (rPi h) (f_X12_incomeOf_b4_body h N K4 x0 x1 x2 x3) := by
  unfold f_X12_incomeOf_b4_body
  refine a_iload_n dX12_incomeOf_4 rfl 3 rfl ?_
  refine a_aload_n dX12_incomeOf_5 rfl 0 rfl ?_
  refine a_geti kc13 26 dX12_incomeOf_6 (by decide) rfl w_fieldLink_RainCoverModel_214 (fun v1 => ?_)
  refine a_icmp_ge 79 dX12_incomeOf_9 (by decide) (fun c2 => ?_) (fun c2 => ?_)
  · refine a_iload_n dX12_incomeOf_79 rfl 2 rfl ?_
    exact a_iret dX12_incomeOf_80 rfl rfl (by decide) (by decide)
  · refine a_aload_n dX12_incomeOf_12 rfl 0 rfl ?_
    refine a_iload_n dX12_incomeOf_13 rfl 3 rfl ?_
    refine a_iload_n dX12_incomeOf_14 rfl 1 rfl ?_
    refine a_cV_Pi (r := x0) (ci := 13) (as := [.int x3, .int x1]) (st := []) dX12_incomeOf_15 (c_X12_termOf l g h N x0 x3 x1) rfl km_X12_termOf (hm_X12_termOf) rfl (by decide) rfl (fun _ ee => g_X12_termOf ee) w_methodLink_RainCoverModel_355 w_instanceMethod_RainCoverModel_termOf__II_I w_selects_RainCoverModel_RainCoverModel_termOf__II_I_RainCoverModel_termOf__II_I ⟨⟨by decide, by decide⟩, ⟨by decide, by decide⟩⟩ (Nat.le_of_ble_eq_true rfl) (fun v3 => ?_)
    refine a_istore (lc2 := [(4, .int v3), (0, .ref x0), (1, .int x1), (2, .int x2), (3, .int x3)]) dX12_incomeOf_18 (by decide) rfl ?_
    refine a_aload_n dX12_incomeOf_20 rfl 1 rfl ?_
    refine a_iload_n dX12_incomeOf_21 rfl 4 rfl ?_
    refine a_iload_n dX12_incomeOf_22 rfl 2 rfl ?_
    refine a_cV_Pi (r := x0) (ci := 13) (as := [.int x3, .int x1]) (st := []) dX12_incomeOf_23 (c_X12_gaugeOf l g h N x0 x3 x1) rfl km_X12_gaugeOf (hm_X12_gaugeOf) rfl (by decide) rfl (fun _ ee => g_X12_gaugeOf ee) w_methodLink_RainCoverModel_349 w_instanceMethod_RainCoverModel_gaugeOf__II_I w_selects_RainCoverModel_RainCoverModel_gaugeOf__II_I_RainCoverModel_gaugeOf__II_I ⟨⟨by decide, by decide⟩, ⟨by decide, by decide⟩⟩ (Nat.le_of_ble_eq_true rfl) (fun v4 => ?_)
    refine a_istore (lc2 := [(5, .int v4), (4, .int v3), (0, .ref x0), (1, .int x1), (2, .int x2), (3, .int x3)]) dX12_incomeOf_26 (by decide) rfl ?_
    refine a_iload_n dX12_incomeOf_28 rfl 4 rfl ?_
    refine a_iload dX12_incomeOf_29 1 rfl ?_
    refine a_iconst (v := (-1)) dX12_incomeOf_31 (by decide) ?_
    refine a_icmp_eq 41 dX12_incomeOf_32 (by decide) (fun c5 => ?_) (fun c5 => ?_)
    · refine a_pick (lc2 := [(0, .ref x0), (1, .int x1), (3, .int x3)]) [2, 3, 5] rfl ?_
      exact t_X12_incomeOf_b41 h N K4 hK4 x0 x1 x3 x2
    · refine a_iload dX12_incomeOf_35 0 rfl ?_
      refine a_iconst (v := (-1)) dX12_incomeOf_37 (by decide) ?_
      refine a_icmp_ne 45 dX12_incomeOf_38 (by decide) (fun c6 => ?_) (fun c6 => ?_)
      · refine a_pick (lc2 := [(0, .ref x0), (1, .int x1), (3, .int x3)]) [2, 3, 5] rfl ?_
        exact t_X12_incomeOf_b41 h N K4 hK4 x0 x1 x3 x2
      · refine a_aload_n dX12_incomeOf_45 rfl 2 rfl ?_
        refine a_getr kc13 30 dX12_incomeOf_46 (by decide) rfl w_fieldLink_RainCoverModel_91 (fun v7 => ?_)
        refine a_iload_n dX12_incomeOf_49 rfl 5 rfl ?_
        refine a_iald dX12_incomeOf_50 (fun v8 => ?_)
        refine a_aload_n dX12_incomeOf_51 rfl 2 rfl ?_
        refine a_iload dX12_incomeOf_52 1 rfl ?_
        refine a_iload dX12_incomeOf_54 0 rfl ?_
        refine a_aload_n dX12_incomeOf_56 rfl 2 rfl ?_
        refine a_iload_n dX12_incomeOf_57 rfl 5 rfl ?_
        refine a_cV_Pi (r := x0) (ci := 13) (as := [.int x3]) (st := [.int v4, .int v3, .ref x0, .int v8, .int x2]) dX12_incomeOf_58 (c_X12_plantOf l g h x0 x3) rfl km_X12_plantOf (hm_X12_plantOf) rfl (by decide) rfl (fun _ ee => g_X12_plantOf ee) w_methodLink_RainCoverModel_352 w_instanceMethod_RainCoverModel_plantOf__I_I w_selects_RainCoverModel_RainCoverModel_plantOf__I_I_RainCoverModel_plantOf__I_I ⟨⟨by decide, by decide⟩, ⟨by decide, by decide⟩⟩ (Nat.le_of_ble_eq_true rfl) (fun v9 => ?_)
        refine a_aload_n dX12_incomeOf_61 rfl 2 rfl ?_
        refine a_getr kc13 29 dX12_incomeOf_62 (by decide) rfl w_fieldLink_RainCoverModel_88 (fun v10 => ?_)
        refine a_iload_n dX12_incomeOf_65 rfl 5 rfl ?_
        refine a_iald dX12_incomeOf_66 (fun v11 => ?_)
        refine a_cV_Pi (r := x0) (ci := 13) (as := [.int v3, .int v4, .int v9, .int v11]) (st := [.int v8, .int x2]) dX12_incomeOf_67 (c_X12_priceOf l g h N x0 v3 v4 v9 v11) rfl km_X12_priceOf (hm_X12_priceOf) rfl (by decide) rfl (fun _ ee => g_X12_priceOf ee) w_methodLink_RainCoverModel_404 w_instanceMethod_RainCoverModel_priceOf__IIII_I w_selects_RainCoverModel_RainCoverModel_priceOf__IIII_I_RainCoverModel_priceOf__IIII_I ⟨⟨by decide, by decide⟩, ⟨by decide, by decide⟩⟩ (Nat.le_of_ble_eq_true rfl) (fun v12 => ?_)
        refine a_imul dX12_incomeOf_70 ?_
        refine a_pick (lc2 := [(0, .ref x0), (1, .int x1), (3, .int x3)]) [2, 3, 5] rfl ?_
        exact t_X12_incomeOf_b71 h N K4 hK4 x0 x1 x3 (v8 * v12) x2
set_option maxRecDepth 100000 in
set_option maxHeartbeats 4000000 in
theorem t_X12_incomeOf_b4 (h : AH) (N : Nat) : ∀ (n : Nat) (x0 : Nat) (x1 : Int32) (x2 : Int32) (x3 : Int32) , AO l g M_X12_incomeOf false h 4 [(0, .ref x0), (1, .int x1), (2, .int x2), (3, .int x3)] [] h 0 0 (rPi h) (f_X12_incomeOf_b4 h N  n x0 x1 x2 x3) := by
  intro n
  induction n with
  | zero => intro x0 x1 x2 x3; exact a_eq rfl a_none
  | succ n ih => intro x0 x1 x2 x3; exact a_eq rfl (t_X12_incomeOf_b4_body h N  (f_X12_incomeOf_b4 h N  n) ih x0 x1 x2 x3)
end
set_option maxRecDepth 100000 in
set_option maxHeartbeats 4000000 in
theorem c_X12_incomeOf (l : Launch) (g : GG) (h : AH) (N : Nat) (p0 : Nat) (p1 : Int32) : CN l g yX12_incomeOf M_X12_incomeOf false [.ref p0, .int p1] h ((rPi h)) (f_X12_incomeOf h N p0 p1) := by
  refine CN.of (by decide) rfl (fun hh => by first | rfl | cases hh) (Nat.le_of_ble_eq_true rfl) ?_
  unfold f_X12_incomeOf
  refine a_gd (fun hkd => ?_)
  refine a_iconst (v := 0) dX12_incomeOf_0 (by decide) ?_
  refine a_istore_n (lc2 := [(2, .int 0), (0, .ref p0), (1, .int p1)]) dX12_incomeOf_1 rfl (by decide) rfl ?_
  refine a_iconst (v := 0) dX12_incomeOf_2 (by decide) ?_
  refine a_istore_n (lc2 := [(3, .int 0), (2, .int 0), (0, .ref p0), (1, .int p1)]) dX12_incomeOf_3 rfl (by decide) rfl ?_
  refine a_pick (lc2 := [(0, .ref p0), (1, .int p1), (2, .int 0), (3, .int 0)]) [2, 3, 1, 0] rfl ?_
  exact t_X12_incomeOf_b4 h N N p0 p1 0 0
theorem dX12_income_0 : decode cX12_income 0 = .ok (.iload_n 1, 1) := by decide +kernel
theorem dX12_income_1 : decode cX12_income 1 = .ok (.invokestatic 221, 3) := by decide +kernel
theorem dX12_income_4 : decode cX12_income 4 = .ok (.ifCond .eq 11, 3) := by decide +kernel
theorem dX12_income_7 : decode cX12_income 7 = .ok (.aload_n 0, 1) := by decide +kernel
theorem dX12_income_8 : decode cX12_income 8 = .ok (.iload_n 1, 1) := by decide +kernel
theorem dX12_income_9 : decode cX12_income 9 = .ok (.invokevirtual 409, 3) := by decide +kernel
theorem dX12_income_12 : decode cX12_income 12 = .ok (.goto 4, 3) := by decide +kernel
theorem dX12_income_15 : decode cX12_income 15 = .ok (.iconst (-1), 1) := by decide +kernel
theorem dX12_income_16 : decode cX12_income 16 = .ok (.ireturn, 1) := by decide +kernel
abbrev M_X12_income : MI := (RX12, cX12_income, 2, (some .int), ({ frames := 10, cells := 0, slots := 0, locals := 255 } : Room), 0, 0, false)
def f_X12_income (h : AH) (N : Nat) (p0 : Nat) (p1 : Int32) : Option Int32 := if kd h p0 = 13 + 1 then (f_X12_isSeason h p1).bind fun v1 => (if v1 = 0 then some (-1) else (f_X12_incomeOf h N p0 p1).bind fun v3 => some v3) else none
theorem g_X12_income {h : AH} {N : Nat} {p0 : Nat} {p1 : Int32} {x : Int32} (e : f_X12_income h N p0 p1 = some x) : kd h p0 = 13 + 1 := by
  unfold f_X12_income at e
  by_cases hk : kd h p0 = 13 + 1
  · exact hk
  · rw [if_neg hk] at e
    cases e
theorem km_X12_income : KM yX12_income M_X12_income 1 := ⟨in_tb 1746 (by decide +kernel) rfl, in_tb 9 (by decide +kernel) rfl, by decide +kernel, rfl, rfl⟩
theorem hm_X12_income : M_X12_income.2.2.2.2.2.1 = 0 ∧ M_X12_income.2.2.2.2.2.2.1 = 0 := ⟨rfl, rfl⟩
section
variable {l : Launch} {g : GG}
end
set_option maxRecDepth 100000 in
set_option maxHeartbeats 4000000 in
theorem c_X12_income (l : Launch) (g : GG) (h : AH) (N : Nat) (p0 : Nat) (p1 : Int32) : CN l g yX12_income M_X12_income false [.ref p0, .int p1] h ((rPi h)) (f_X12_income h N p0 p1) := by
  refine CN.of (by decide) rfl (fun hh => by first | rfl | cases hh) (Nat.le_of_ble_eq_true rfl) ?_
  unfold f_X12_income
  refine a_gd (fun hkd => ?_)
  refine a_iload_n dX12_income_0 rfl 1 rfl ?_
  refine a_cS_Pi (as := [.int p1]) (st := []) dX12_income_1 (c_X12_isSeason l g h p1) rfl km_X12_isSeason (hm_X12_isSeason) w_methodLink_RainCoverModel_221 w_static_RainCoverModel_isSeason__I_Z ⟨⟨by decide, by decide⟩, ⟨by decide, by decide⟩⟩ (Nat.le_of_ble_eq_true rfl) (fun v1 => ?_)
  refine a_if_eq 15 dX12_income_4 (by decide) (fun c2 => ?_) (fun c2 => ?_)
  · refine a_iconst (v := (-1)) dX12_income_15 (by decide) ?_
    exact a_iret dX12_income_16 rfl rfl (by decide) (by decide)
  · refine a_aload_n dX12_income_7 rfl 0 rfl ?_
    refine a_iload_n dX12_income_8 rfl 1 rfl ?_
    refine a_cV_Pi (r := p0) (ci := 13) (as := [.int p1]) (st := []) dX12_income_9 (c_X12_incomeOf l g h N p0 p1) rfl km_X12_incomeOf (hm_X12_incomeOf) rfl (by decide) rfl (fun _ ee => g_X12_incomeOf ee) w_methodLink_RainCoverModel_409 w_instanceMethod_RainCoverModel_incomeOf__I_I w_selects_RainCoverModel_RainCoverModel_incomeOf__I_I_RainCoverModel_incomeOf__I_I ⟨⟨by decide, by decide⟩, ⟨by decide, by decide⟩⟩ (Nat.le_of_ble_eq_true rfl) (fun v3 => ?_)
    refine a_goto 16 dX12_income_12 (by decide) ?_
    exact a_iret dX12_income_16 rfl rfl (by decide) (by decide)
theorem dX12_totalOf_0 : decode cX12_totalOf 0 = .ok (.iconst 0, 1) := by decide +kernel
theorem dX12_totalOf_1 : decode cX12_totalOf 1 = .ok (.istore_n 3, 1) := by decide +kernel
theorem dX12_totalOf_2 : decode cX12_totalOf 2 = .ok (.iconst 0, 1) := by decide +kernel
theorem dX12_totalOf_3 : decode cX12_totalOf 3 = .ok (.istore 4, 2) := by decide +kernel
theorem dX12_totalOf_5 : decode cX12_totalOf 5 = .ok (.iload 4, 2) := by decide +kernel
theorem dX12_totalOf_7 : decode cX12_totalOf 7 = .ok (.aload_n 0, 1) := by decide +kernel
theorem dX12_totalOf_8 : decode cX12_totalOf 8 = .ok (.getfield 214, 3) := by decide +kernel
theorem dX12_totalOf_11 : decode cX12_totalOf 11 = .ok (.if_icmp .ge 77, 3) := by decide +kernel
theorem dX12_totalOf_14 : decode cX12_totalOf 14 = .ok (.aload_n 0, 1) := by decide +kernel
theorem dX12_totalOf_15 : decode cX12_totalOf 15 = .ok (.iload 4, 2) := by decide +kernel
theorem dX12_totalOf_17 : decode cX12_totalOf 17 = .ok (.iload_n 2, 1) := by decide +kernel
theorem dX12_totalOf_18 : decode cX12_totalOf 18 = .ok (.invokevirtual 355, 3) := by decide +kernel
theorem dX12_totalOf_21 : decode cX12_totalOf 21 = .ok (.istore 5, 2) := by decide +kernel
theorem dX12_totalOf_23 : decode cX12_totalOf 23 = .ok (.aload_n 0, 1) := by decide +kernel
theorem dX12_totalOf_24 : decode cX12_totalOf 24 = .ok (.iload 4, 2) := by decide +kernel
theorem dX12_totalOf_26 : decode cX12_totalOf 26 = .ok (.iload_n 2, 1) := by decide +kernel
theorem dX12_totalOf_27 : decode cX12_totalOf 27 = .ok (.invokevirtual 349, 3) := by decide +kernel
theorem dX12_totalOf_30 : decode cX12_totalOf 30 = .ok (.istore 6, 2) := by decide +kernel
theorem dX12_totalOf_32 : decode cX12_totalOf 32 = .ok (.iload_n 3, 1) := by decide +kernel
theorem dX12_totalOf_33 : decode cX12_totalOf 33 = .ok (.iload 5, 2) := by decide +kernel
theorem dX12_totalOf_35 : decode cX12_totalOf 35 = .ok (.iconst (-1), 1) := by decide +kernel
theorem dX12_totalOf_36 : decode cX12_totalOf 36 = .ok (.if_icmp .eq 9, 3) := by decide +kernel
theorem dX12_totalOf_39 : decode cX12_totalOf 39 = .ok (.iload 6, 2) := by decide +kernel
theorem dX12_totalOf_41 : decode cX12_totalOf 41 = .ok (.iconst (-1), 1) := by decide +kernel
theorem dX12_totalOf_42 : decode cX12_totalOf 42 = .ok (.if_icmp .ne 7, 3) := by decide +kernel
theorem dX12_totalOf_45 : decode cX12_totalOf 45 = .ok (.iconst 0, 1) := by decide +kernel
theorem dX12_totalOf_46 : decode cX12_totalOf 46 = .ok (.goto 34, 3) := by decide +kernel
theorem dX12_totalOf_49 : decode cX12_totalOf 49 = .ok (.aload_n 0, 1) := by decide +kernel
theorem dX12_totalOf_50 : decode cX12_totalOf 50 = .ok (.getfield 91, 3) := by decide +kernel
theorem dX12_totalOf_53 : decode cX12_totalOf 53 = .ok (.iload 4, 2) := by decide +kernel
theorem dX12_totalOf_55 : decode cX12_totalOf 55 = .ok (.iaload, 1) := by decide +kernel
theorem dX12_totalOf_56 : decode cX12_totalOf 56 = .ok (.aload_n 0, 1) := by decide +kernel
theorem dX12_totalOf_57 : decode cX12_totalOf 57 = .ok (.iconst 0, 1) := by decide +kernel
theorem dX12_totalOf_58 : decode cX12_totalOf 58 = .ok (.iload 5, 2) := by decide +kernel
theorem dX12_totalOf_60 : decode cX12_totalOf 60 = .ok (.iload 6, 2) := by decide +kernel
theorem dX12_totalOf_62 : decode cX12_totalOf 62 = .ok (.iload_n 1, 1) := by decide +kernel
theorem dX12_totalOf_63 : decode cX12_totalOf 63 = .ok (.aload_n 0, 1) := by decide +kernel
theorem dX12_totalOf_64 : decode cX12_totalOf 64 = .ok (.iload 4, 2) := by decide +kernel
theorem dX12_totalOf_66 : decode cX12_totalOf 66 = .ok (.invokevirtual 352, 3) := by decide +kernel
theorem dX12_totalOf_69 : decode cX12_totalOf 69 = .ok (.aload_n 0, 1) := by decide +kernel
theorem dX12_totalOf_70 : decode cX12_totalOf 70 = .ok (.getfield 88, 3) := by decide +kernel
theorem dX12_totalOf_73 : decode cX12_totalOf 73 = .ok (.iload 4, 2) := by decide +kernel
theorem dX12_totalOf_75 : decode cX12_totalOf 75 = .ok (.iaload, 1) := by decide +kernel
theorem dX12_totalOf_76 : decode cX12_totalOf 76 = .ok (.invokevirtual 331, 3) := by decide +kernel
theorem dX12_totalOf_79 : decode cX12_totalOf 79 = .ok (.imul, 1) := by decide +kernel
theorem dX12_totalOf_80 : decode cX12_totalOf 80 = .ok (.iadd, 1) := by decide +kernel
theorem dX12_totalOf_81 : decode cX12_totalOf 81 = .ok (.istore_n 3, 1) := by decide +kernel
theorem dX12_totalOf_82 : decode cX12_totalOf 82 = .ok (.iinc 4 1, 3) := by decide +kernel
theorem dX12_totalOf_85 : decode cX12_totalOf 85 = .ok (.goto (-80), 3) := by decide +kernel
theorem dX12_totalOf_88 : decode cX12_totalOf 88 = .ok (.iload_n 3, 1) := by decide +kernel
theorem dX12_totalOf_89 : decode cX12_totalOf 89 = .ok (.ireturn, 1) := by decide +kernel
abbrev M_X12_totalOf : MI := (RX12, cX12_totalOf, 7, (some .int), ({ frames := 7, cells := 0, slots := 0, locals := 179 } : Room), 0, 0, false)
def f_X12_totalOf_b80 (h : AH) (N : Nat) (K5 : Nat → Int32 → Int32 → Int32 → Int32 → Option Int32) (x0 : Nat) (x1 : Int32) (x2 : Int32) (x4 : Int32) (s4 : Int32) (s5 : Int32) : Option Int32 := K5 x0 x1 x2 (s5 + s4) (x4 + 1)
def f_X12_totalOf_b45 (h : AH) (N : Nat) (K5 : Nat → Int32 → Int32 → Int32 → Int32 → Option Int32) (x0 : Nat) (x1 : Int32) (x2 : Int32) (x4 : Int32) (s4 : Int32) : Option Int32 := f_X12_totalOf_b80 h N K5 x0 x1 x2 x4 0 s4
def f_X12_totalOf_b5_body (h : AH) (N : Nat) (K5 : Nat → Int32 → Int32 → Int32 → Int32 → Option Int32) (x0 : Nat) (x1 : Int32) (x2 : Int32) (x3 : Int32) (x4 : Int32) : Option Int32 := (xgi h x0 13 26).bind fun v1 => (if v1 ≤ x4 then some x3 else (f_X12_termOf h N x0 x4 x2).bind fun v3 => (f_X12_gaugeOf h N x0 x4 x2).bind fun v4 => (if v3 = (-1) then f_X12_totalOf_b45 h N K5 x0 x1 x2 x4 x3 else (if v4 = (-1) then f_X12_totalOf_b45 h N K5 x0 x1 x2 x4 x3 else (xgr h x0 13 30).bind fun v7 => (xia h v7 x4).bind fun v8 => (f_X12_plantOf h x0 x4).bind fun v9 => (xgr h x0 13 29).bind fun v10 => (xia h v10 x4).bind fun v11 => (f_X12_payOf h N x0 0 v3 v4 x1 v9 v11).bind fun v12 => f_X12_totalOf_b80 h N K5 x0 x1 x2 x4 (v8 * v12) x3)))
def f_X12_totalOf_b5 (h : AH) (N : Nat) : Nat → Nat → Int32 → Int32 → Int32 → Int32 → Option Int32
  | 0, _, _, _, _, _ => none
  | n + 1, x0, x1, x2, x3, x4 => f_X12_totalOf_b5_body h N  (f_X12_totalOf_b5 h N  n) x0 x1 x2 x3 x4
def f_X12_totalOf (h : AH) (N : Nat) (p0 : Nat) (p1 : Int32) (p2 : Int32) : Option Int32 := if kd h p0 = 13 + 1 then f_X12_totalOf_b5 h N N p0 p1 p2 0 0 else none
theorem g_X12_totalOf {h : AH} {N : Nat} {p0 : Nat} {p1 : Int32} {p2 : Int32} {x : Int32} (e : f_X12_totalOf h N p0 p1 p2 = some x) : kd h p0 = 13 + 1 := by
  unfold f_X12_totalOf at e
  by_cases hk : kd h p0 = 13 + 1
  · exact hk
  · rw [if_neg hk] at e
    cases e
theorem km_X12_totalOf : KM yX12_totalOf M_X12_totalOf 2 := ⟨in_tb 1758 (by decide +kernel) rfl, in_tb 9 (by decide +kernel) rfl, by decide +kernel, rfl, rfl⟩
theorem hm_X12_totalOf : M_X12_totalOf.2.2.2.2.2.1 = 0 ∧ M_X12_totalOf.2.2.2.2.2.2.1 = 0 := ⟨rfl, rfl⟩
section
variable {l : Launch} {g : GG}
set_option maxRecDepth 100000 in
set_option maxHeartbeats 4000000 in
theorem t_X12_totalOf_b80 (h : AH) (N : Nat) (K5 : Nat → Int32 → Int32 → Int32 → Int32 → Option Int32) (hK5 : ∀ (z0 : Nat) (z1 : Int32) (z2 : Int32) (z3 : Int32) (z4 : Int32), AO l g M_X12_totalOf false h 5 [(0, .ref z0), (1, .int z1), (2, .int z2), (3, .int z3), (4, .int z4)] [] h 0 0 (rPi h) (K5 z0 z1 z2 z3 z4)) (x0 : Nat) (x1 : Int32) (x2 : Int32) (x4 : Int32) (s4 : Int32) (s5 : Int32) : AO l g M_X12_totalOf false h 80 [(0, .ref x0), (1, .int x1), (2, .int x2), (4, .int x4)] [.int s4, .int s5] h 0 0 (rPi h) (f_X12_totalOf_b80 h N K5 x0 x1 x2 x4 s4 s5) := by
  unfold f_X12_totalOf_b80
  refine a_iadd dX12_totalOf_80 ?_
  refine a_istore_n (lc2 := [(3, .int (s5 + s4)), (0, .ref x0), (1, .int x1), (2, .int x2), (4, .int x4)]) dX12_totalOf_81 rfl (by decide) rfl ?_
  refine a_iinc (q := 4) (v := (x4 + 1)) (lc2 := [(4, .int (x4 + 1)), (3, .int (s5 + s4)), (0, .ref x0), (1, .int x1), (2, .int x2)]) dX12_totalOf_82 rfl rfl (by decide) rfl ?_
  refine a_goto 5 dX12_totalOf_85 (by decide) ?_
  refine a_pick (lc2 := [(0, .ref x0), (1, .int x1), (2, .int x2), (3, .int (s5 + s4)), (4, .int (x4 + 1))]) [2, 3, 4, 1, 0] rfl ?_
  exact hK5 x0 x1 x2 (s5 + s4) (x4 + 1)
set_option maxRecDepth 100000 in
set_option maxHeartbeats 4000000 in
theorem t_X12_totalOf_b45 (h : AH) (N : Nat) (K5 : Nat → Int32 → Int32 → Int32 → Int32 → Option Int32) (hK5 : ∀ (z0 : Nat) (z1 : Int32) (z2 : Int32) (z3 : Int32) (z4 : Int32), AO l g M_X12_totalOf false h 5 [(0, .ref z0), (1, .int z1), (2, .int z2), (3, .int z3), (4, .int z4)] [] h 0 0 (rPi h) (K5 z0 z1 z2 z3 z4)) (x0 : Nat) (x1 : Int32) (x2 : Int32) (x4 : Int32) (s4 : Int32) : AO l g M_X12_totalOf false h 45 [(0, .ref x0), (1, .int x1), (2, .int x2), (4, .int x4)] [.int s4] h 0 0 (rPi h) (f_X12_totalOf_b45 h N K5 x0 x1 x2 x4 s4) := by
  unfold f_X12_totalOf_b45
  refine a_iconst (v := 0) dX12_totalOf_45 (by decide) ?_
  refine a_goto 80 dX12_totalOf_46 (by decide) ?_
  exact t_X12_totalOf_b80 h N K5 hK5 x0 x1 x2 x4 0 s4
set_option maxRecDepth 100000 in
set_option maxHeartbeats 4000000 in
theorem t_X12_totalOf_b5_body (h : AH) (N : Nat) (K5 : Nat → Int32 → Int32 → Int32 → Int32 → Option Int32) (hK5 : ∀ (z0 : Nat) (z1 : Int32) (z2 : Int32) (z3 : Int32) (z4 : Int32), AO l g M_X12_totalOf false h 5 [(0, .ref z0), (1, .int z1), (2, .int z2), (3, .int z3), (4, .int z4)] [] h 0 0 (rPi h) (K5 z0 z1 z2 z3 z4)) (x0 : Nat) (x1 : Int32) (x2 : Int32) (x3 : Int32) (x4 : Int32) : AO l g M_X12_totalOf false h 5 [(0, .ref x0), (1, .int x1), (2, .int x2), (3, .int x3), (4, .int x4)] [] h 0 0 (rPi h) (f_X12_totalOf_b5_body h N K5 x0 x1 x2 x3 x4) := by
  unfold f_X12_totalOf_b5_body
  refine a_iload dX12_totalOf_5 4 rfl ?_
  refine a_aload_n dX12_totalOf_7 rfl 0 rfl ?_
  refine a_geti kc13 26 dX12_totalOf_8 (by decide) rfl w_fieldLink_RainCoverModel_214 (fun v1 => ?_)
  refine a_icmp_ge 88 dX12_totalOf_11 (by decide) (fun c2 => ?_) (fun c2 => ?_)
  · refine a_iload_n dX12_totalOf_88 rfl 3 rfl ?_
    exact a_iret dX12_totalOf_89 rfl rfl (by decide) (by decide)
  · refine a_aload_n dX12_totalOf_14 rfl 0 rfl ?_
    refine a_iload dX12_totalOf_15 4 rfl ?_
    refine a_iload_n dX12_totalOf_17 rfl 2 rfl ?_
    refine a_cV_Pi (r := x0) (ci := 13) (as := [.int x4, .int x2]) (st := []) dX12_totalOf_18 (c_X12_termOf l g h N x0 x4 x2) rfl km_X12_termOf (hm_X12_termOf) rfl (by decide) rfl (fun _ ee => g_X12_termOf ee) w_methodLink_RainCoverModel_355 w_instanceMethod_RainCoverModel_termOf__II_I w_selects_RainCoverModel_RainCoverModel_termOf__II_I_RainCoverModel_termOf__II_I ⟨⟨by decide, by decide⟩, ⟨by decide, by decide⟩⟩ (Nat.le_of_ble_eq_true rfl) (fun v3 => ?_)
    refine a_istore (lc2 := [(5, .int v3), (0, .ref x0), (1, .int x1), (2, .int x2), (3, .int x3), (4, .int x4)]) dX12_totalOf_21 (by decide) rfl ?_
    refine a_aload_n dX12_totalOf_23 rfl 1 rfl ?_
    refine a_iload dX12_totalOf_24 5 rfl ?_
    refine a_iload_n dX12_totalOf_26 rfl 3 rfl ?_
    refine a_cV_Pi (r := x0) (ci := 13) (as := [.int x4, .int x2]) (st := []) dX12_totalOf_27 (c_X12_gaugeOf l g h N x0 x4 x2) rfl km_X12_gaugeOf (hm_X12_gaugeOf) rfl (by decide) rfl (fun _ ee => g_X12_gaugeOf ee) w_methodLink_RainCoverModel_349 w_instanceMethod_RainCoverModel_gaugeOf__II_I w_selects_RainCoverModel_RainCoverModel_gaugeOf__II_I_RainCoverModel_gaugeOf__II_I ⟨⟨by decide, by decide⟩, ⟨by decide, by decide⟩⟩ (Nat.le_of_ble_eq_true rfl) (fun v4 => ?_)
    refine a_istore (lc2 := [(6, .int v4), (5, .int v3), (0, .ref x0), (1, .int x1), (2, .int x2), (3, .int x3), (4, .int x4)]) dX12_totalOf_30 (by decide) rfl ?_
    refine a_iload_n dX12_totalOf_32 rfl 5 rfl ?_
    refine a_iload dX12_totalOf_33 1 rfl ?_
    refine a_iconst (v := (-1)) dX12_totalOf_35 (by decide) ?_
    refine a_icmp_eq 45 dX12_totalOf_36 (by decide) (fun c5 => ?_) (fun c5 => ?_)
    · refine a_pick (lc2 := [(0, .ref x0), (1, .int x1), (2, .int x2), (4, .int x4)]) [2, 3, 4, 6] rfl ?_
      exact t_X12_totalOf_b45 h N K5 hK5 x0 x1 x2 x4 x3
    · refine a_iload dX12_totalOf_39 0 rfl ?_
      refine a_iconst (v := (-1)) dX12_totalOf_41 (by decide) ?_
      refine a_icmp_ne 49 dX12_totalOf_42 (by decide) (fun c6 => ?_) (fun c6 => ?_)
      · refine a_pick (lc2 := [(0, .ref x0), (1, .int x1), (2, .int x2), (4, .int x4)]) [2, 3, 4, 6] rfl ?_
        exact t_X12_totalOf_b45 h N K5 hK5 x0 x1 x2 x4 x3
      · refine a_aload_n dX12_totalOf_49 rfl 2 rfl ?_
        refine a_getr kc13 30 dX12_totalOf_50 (by decide) rfl w_fieldLink_RainCoverModel_91 (fun v7 => ?_)
        refine a_iload dX12_totalOf_53 6 rfl ?_
        refine a_iald dX12_totalOf_55 (fun v8 => ?_)
        refine a_aload_n dX12_totalOf_56 rfl 2 rfl ?_
        refine a_iconst (v := 0) dX12_totalOf_57 (by decide) ?_
        refine a_iload dX12_totalOf_58 1 rfl ?_
        refine a_iload dX12_totalOf_60 0 rfl ?_
        refine a_iload_n dX12_totalOf_62 rfl 3 rfl ?_
        refine a_aload_n dX12_totalOf_63 rfl 2 rfl ?_
        refine a_iload dX12_totalOf_64 6 rfl ?_
        refine a_cV_Pi (r := x0) (ci := 13) (as := [.int x4]) (st := [.int x1, .int v4, .int v3, .int 0, .ref x0, .int v8, .int x3]) dX12_totalOf_66 (c_X12_plantOf l g h x0 x4) rfl km_X12_plantOf (hm_X12_plantOf) rfl (by decide) rfl (fun _ ee => g_X12_plantOf ee) w_methodLink_RainCoverModel_352 w_instanceMethod_RainCoverModel_plantOf__I_I w_selects_RainCoverModel_RainCoverModel_plantOf__I_I_RainCoverModel_plantOf__I_I ⟨⟨by decide, by decide⟩, ⟨by decide, by decide⟩⟩ (Nat.le_of_ble_eq_true rfl) (fun v9 => ?_)
        refine a_aload_n dX12_totalOf_69 rfl 2 rfl ?_
        refine a_getr kc13 29 dX12_totalOf_70 (by decide) rfl w_fieldLink_RainCoverModel_88 (fun v10 => ?_)
        refine a_iload dX12_totalOf_73 6 rfl ?_
        refine a_iald dX12_totalOf_75 (fun v11 => ?_)
        refine a_cV_Pi (r := x0) (ci := 13) (as := [.int 0, .int v3, .int v4, .int x1, .int v9, .int v11]) (st := [.int v8, .int x3]) dX12_totalOf_76 (c_X12_payOf l g h N x0 0 v3 v4 x1 v9 v11) rfl km_X12_payOf (hm_X12_payOf) rfl (by decide) rfl (fun _ ee => g_X12_payOf ee) w_methodLink_RainCoverModel_331 w_instanceMethod_RainCoverModel_payOf__IIIIII_I w_selects_RainCoverModel_RainCoverModel_payOf__IIIIII_I_RainCoverModel_payOf__IIIIII_I ⟨⟨by decide, by decide⟩, ⟨by decide, by decide⟩⟩ (Nat.le_of_ble_eq_true rfl) (fun v12 => ?_)
        refine a_imul dX12_totalOf_79 ?_
        refine a_pick (lc2 := [(0, .ref x0), (1, .int x1), (2, .int x2), (4, .int x4)]) [2, 3, 4, 6] rfl ?_
        exact t_X12_totalOf_b80 h N K5 hK5 x0 x1 x2 x4 (v8 * v12) x3
set_option maxRecDepth 100000 in
set_option maxHeartbeats 4000000 in
theorem t_X12_totalOf_b5 (h : AH) (N : Nat) : ∀ (n : Nat) (x0 : Nat) (x1 : Int32) (x2 : Int32) (x3 : Int32) (x4 : Int32) , AO l g M_X12_totalOf false h 5 [(0, .ref x0), (1, .int x1), (2, .int x2), (3, .int x3), (4, .int x4)] [] h 0 0 (rPi h) (f_X12_totalOf_b5 h N  n x0 x1 x2 x3 x4) := by
  intro n
  induction n with
  | zero => intro x0 x1 x2 x3 x4; exact a_eq rfl a_none
  | succ n ih => intro x0 x1 x2 x3 x4; exact a_eq rfl (t_X12_totalOf_b5_body h N  (f_X12_totalOf_b5 h N  n) ih x0 x1 x2 x3 x4)
end
set_option maxRecDepth 100000 in
set_option maxHeartbeats 4000000 in
theorem c_X12_totalOf (l : Launch) (g : GG) (h : AH) (N : Nat) (p0 : Nat) (p1 : Int32) (p2 : Int32) : CN l g yX12_totalOf M_X12_totalOf false [.ref p0, .int p1, .int p2] h ((rPi h)) (f_X12_totalOf h N p0 p1 p2) := by
  refine CN.of (by decide) rfl (fun hh => by first | rfl | cases hh) (Nat.le_of_ble_eq_true rfl) ?_
  unfold f_X12_totalOf
  refine a_gd (fun hkd => ?_)
  refine a_iconst (v := 0) dX12_totalOf_0 (by decide) ?_
  refine a_istore_n (lc2 := [(3, .int 0), (0, .ref p0), (1, .int p1), (2, .int p2)]) dX12_totalOf_1 rfl (by decide) rfl ?_
  refine a_iconst (v := 0) dX12_totalOf_2 (by decide) ?_
  refine a_istore (lc2 := [(4, .int 0), (3, .int 0), (0, .ref p0), (1, .int p1), (2, .int p2)]) dX12_totalOf_3 (by decide) rfl ?_
  refine a_pick (lc2 := [(0, .ref p0), (1, .int p1), (2, .int p2), (3, .int 0), (4, .int 0)]) [2, 3, 4, 1, 0] rfl ?_
  exact t_X12_totalOf_b5 h N N p0 p1 p2 0 0
theorem dX12_total_0 : decode cX12_total 0 = .ok (.iload_n 1, 1) := by decide +kernel
theorem dX12_total_1 : decode cX12_total 1 = .ok (.invokestatic 221, 3) := by decide +kernel
theorem dX12_total_4 : decode cX12_total 4 = .ok (.ifCond .eq 19, 3) := by decide +kernel
theorem dX12_total_7 : decode cX12_total 7 = .ok (.iload_n 2, 1) := by decide +kernel
theorem dX12_total_8 : decode cX12_total 8 = .ok (.invokestatic 221, 3) := by decide +kernel
theorem dX12_total_11 : decode cX12_total 11 = .ok (.ifCond .eq 12, 3) := by decide +kernel
theorem dX12_total_14 : decode cX12_total 14 = .ok (.aload_n 0, 1) := by decide +kernel
theorem dX12_total_15 : decode cX12_total 15 = .ok (.iload_n 1, 1) := by decide +kernel
theorem dX12_total_16 : decode cX12_total 16 = .ok (.iload_n 2, 1) := by decide +kernel
theorem dX12_total_17 : decode cX12_total 17 = .ok (.invokevirtual 412, 3) := by decide +kernel
theorem dX12_total_20 : decode cX12_total 20 = .ok (.goto 4, 3) := by decide +kernel
theorem dX12_total_23 : decode cX12_total 23 = .ok (.iconst (-1), 1) := by decide +kernel
theorem dX12_total_24 : decode cX12_total 24 = .ok (.ireturn, 1) := by decide +kernel
abbrev M_X12_total : MI := (RX12, cX12_total, 3, (some .int), ({ frames := 8, cells := 0, slots := 0, locals := 205 } : Room), 0, 0, false)
def f_X12_total (h : AH) (N : Nat) (p0 : Nat) (p1 : Int32) (p2 : Int32) : Option Int32 := if kd h p0 = 13 + 1 then (f_X12_isSeason h p1).bind fun v1 => (if v1 = 0 then some (-1) else (f_X12_isSeason h p2).bind fun v3 => (if v3 = 0 then some (-1) else (f_X12_totalOf h N p0 p1 p2).bind fun v5 => some v5)) else none
theorem g_X12_total {h : AH} {N : Nat} {p0 : Nat} {p1 : Int32} {p2 : Int32} {x : Int32} (e : f_X12_total h N p0 p1 p2 = some x) : kd h p0 = 13 + 1 := by
  unfold f_X12_total at e
  by_cases hk : kd h p0 = 13 + 1
  · exact hk
  · rw [if_neg hk] at e
    cases e
theorem km_X12_total : KM yX12_total M_X12_total 2 := ⟨in_tb 1754 (by decide +kernel) rfl, in_tb 9 (by decide +kernel) rfl, by decide +kernel, rfl, rfl⟩
theorem hm_X12_total : M_X12_total.2.2.2.2.2.1 = 0 ∧ M_X12_total.2.2.2.2.2.2.1 = 0 := ⟨rfl, rfl⟩
section
variable {l : Launch} {g : GG}
end
set_option maxRecDepth 100000 in
set_option maxHeartbeats 4000000 in
theorem c_X12_total (l : Launch) (g : GG) (h : AH) (N : Nat) (p0 : Nat) (p1 : Int32) (p2 : Int32) : CN l g yX12_total M_X12_total false [.ref p0, .int p1, .int p2] h ((rPi h)) (f_X12_total h N p0 p1 p2) := by
  refine CN.of (by decide) rfl (fun hh => by first | rfl | cases hh) (Nat.le_of_ble_eq_true rfl) ?_
  unfold f_X12_total
  refine a_gd (fun hkd => ?_)
  refine a_iload_n dX12_total_0 rfl 1 rfl ?_
  refine a_cS_Pi (as := [.int p1]) (st := []) dX12_total_1 (c_X12_isSeason l g h p1) rfl km_X12_isSeason (hm_X12_isSeason) w_methodLink_RainCoverModel_221 w_static_RainCoverModel_isSeason__I_Z ⟨⟨by decide, by decide⟩, ⟨by decide, by decide⟩⟩ (Nat.le_of_ble_eq_true rfl) (fun v1 => ?_)
  refine a_if_eq 23 dX12_total_4 (by decide) (fun c2 => ?_) (fun c2 => ?_)
  · refine a_iconst (v := (-1)) dX12_total_23 (by decide) ?_
    exact a_iret dX12_total_24 rfl rfl (by decide) (by decide)
  · refine a_iload_n dX12_total_7 rfl 2 rfl ?_
    refine a_cS_Pi (as := [.int p2]) (st := []) dX12_total_8 (c_X12_isSeason l g h p2) rfl km_X12_isSeason (hm_X12_isSeason) w_methodLink_RainCoverModel_221 w_static_RainCoverModel_isSeason__I_Z ⟨⟨by decide, by decide⟩, ⟨by decide, by decide⟩⟩ (Nat.le_of_ble_eq_true rfl) (fun v3 => ?_)
    refine a_if_eq 23 dX12_total_11 (by decide) (fun c4 => ?_) (fun c4 => ?_)
    · refine a_iconst (v := (-1)) dX12_total_23 (by decide) ?_
      exact a_iret dX12_total_24 rfl rfl (by decide) (by decide)
    · refine a_aload_n dX12_total_14 rfl 0 rfl ?_
      refine a_iload_n dX12_total_15 rfl 1 rfl ?_
      refine a_iload_n dX12_total_16 rfl 2 rfl ?_
      refine a_cV_Pi (r := p0) (ci := 13) (as := [.int p1, .int p2]) (st := []) dX12_total_17 (c_X12_totalOf l g h N p0 p1 p2) rfl km_X12_totalOf (hm_X12_totalOf) rfl (by decide) rfl (fun _ ee => g_X12_totalOf ee) w_methodLink_RainCoverModel_412 w_instanceMethod_RainCoverModel_totalOf__II_I w_selects_RainCoverModel_RainCoverModel_totalOf__II_I_RainCoverModel_totalOf__II_I ⟨⟨by decide, by decide⟩, ⟨by decide, by decide⟩⟩ (Nat.le_of_ble_eq_true rfl) (fun v5 => ?_)
      refine a_goto 24 dX12_total_20 (by decide) ?_
      exact a_iret dX12_total_24 rfl rfl (by decide) (by decide)
theorem dX12_layer_0 : decode cX12_layer 0 = .ok (.iload_n 1, 1) := by decide +kernel
theorem dX12_layer_1 : decode cX12_layer 1 = .ok (.invokestatic 221, 3) := by decide +kernel
theorem dX12_layer_4 : decode cX12_layer 4 = .ok (.ifCond .eq 10, 3) := by decide +kernel
theorem dX12_layer_7 : decode cX12_layer 7 = .ok (.iload_n 2, 1) := by decide +kernel
theorem dX12_layer_8 : decode cX12_layer 8 = .ok (.invokestatic 221, 3) := by decide +kernel
theorem dX12_layer_11 : decode cX12_layer 11 = .ok (.ifCond .ne 5, 3) := by decide +kernel
theorem dX12_layer_14 : decode cX12_layer 14 = .ok (.iconst (-1), 1) := by decide +kernel
theorem dX12_layer_15 : decode cX12_layer 15 = .ok (.ireturn, 1) := by decide +kernel
theorem dX12_layer_16 : decode cX12_layer 16 = .ok (.iload_n 3, 1) := by decide +kernel
theorem dX12_layer_17 : decode cX12_layer 17 = .ok (.ifCond .lt 19, 3) := by decide +kernel
theorem dX12_layer_20 : decode cX12_layer 20 = .ok (.iload 4, 2) := by decide +kernel
theorem dX12_layer_22 : decode cX12_layer 22 = .ok (.i2l, 1) := by decide +kernel
theorem dX12_layer_23 : decode cX12_layer 23 = .ok (.ldc2_w 415, 3) := by decide +kernel
theorem dX12_layer_26 : decode cX12_layer 26 = .ok (.lcmp, 1) := by decide +kernel
theorem dX12_layer_27 : decode cX12_layer 27 = .ok (.ifCond .gt 9, 3) := by decide +kernel
theorem dX12_layer_30 : decode cX12_layer 30 = .ok (.iload_n 3, 1) := by decide +kernel
theorem dX12_layer_31 : decode cX12_layer 31 = .ok (.iload 4, 2) := by decide +kernel
theorem dX12_layer_33 : decode cX12_layer 33 = .ok (.if_icmp .le 6, 3) := by decide +kernel
theorem dX12_layer_36 : decode cX12_layer 36 = .ok (.bipush (-2), 2) := by decide +kernel
theorem dX12_layer_38 : decode cX12_layer 38 = .ok (.ireturn, 1) := by decide +kernel
theorem dX12_layer_39 : decode cX12_layer 39 = .ok (.aload_n 0, 1) := by decide +kernel
theorem dX12_layer_40 : decode cX12_layer 40 = .ok (.iload_n 1, 1) := by decide +kernel
theorem dX12_layer_41 : decode cX12_layer 41 = .ok (.iload_n 2, 1) := by decide +kernel
theorem dX12_layer_42 : decode cX12_layer 42 = .ok (.invokevirtual 412, 3) := by decide +kernel
theorem dX12_layer_45 : decode cX12_layer 45 = .ok (.iload_n 3, 1) := by decide +kernel
theorem dX12_layer_46 : decode cX12_layer 46 = .ok (.isub, 1) := by decide +kernel
theorem dX12_layer_47 : decode cX12_layer 47 = .ok (.istore 5, 2) := by decide +kernel
theorem dX12_layer_49 : decode cX12_layer 49 = .ok (.iload 5, 2) := by decide +kernel
theorem dX12_layer_51 : decode cX12_layer 51 = .ok (.ifCond .ge 7, 3) := by decide +kernel
theorem dX12_layer_54 : decode cX12_layer 54 = .ok (.iconst 0, 1) := by decide +kernel
theorem dX12_layer_55 : decode cX12_layer 55 = .ok (.goto 21, 3) := by decide +kernel
theorem dX12_layer_58 : decode cX12_layer 58 = .ok (.iload 5, 2) := by decide +kernel
theorem dX12_layer_60 : decode cX12_layer 60 = .ok (.iload 4, 2) := by decide +kernel
theorem dX12_layer_62 : decode cX12_layer 62 = .ok (.iload_n 3, 1) := by decide +kernel
theorem dX12_layer_63 : decode cX12_layer 63 = .ok (.isub, 1) := by decide +kernel
theorem dX12_layer_64 : decode cX12_layer 64 = .ok (.if_icmp .le 10, 3) := by decide +kernel
theorem dX12_layer_67 : decode cX12_layer 67 = .ok (.iload 4, 2) := by decide +kernel
theorem dX12_layer_69 : decode cX12_layer 69 = .ok (.iload_n 3, 1) := by decide +kernel
theorem dX12_layer_70 : decode cX12_layer 70 = .ok (.isub, 1) := by decide +kernel
theorem dX12_layer_71 : decode cX12_layer 71 = .ok (.goto 5, 3) := by decide +kernel
theorem dX12_layer_74 : decode cX12_layer 74 = .ok (.iload 5, 2) := by decide +kernel
theorem dX12_layer_76 : decode cX12_layer 76 = .ok (.ireturn, 1) := by decide +kernel
abbrev M_X12_layer : MI := (RX12, cX12_layer, 6, (some .int), ({ frames := 8, cells := 0, slots := 0, locals := 205 } : Room), 0, 0, false)
def f_X12_layer (h : AH) (N : Nat) (p0 : Nat) (p1 : Int32) (p2 : Int32) (p3 : Int32) (p4 : Int32) : Option Int32 := if kd h p0 = 13 + 1 then (f_X12_isSeason h p1).bind fun v1 => (if v1 = 0 then some (-1) else (f_X12_isSeason h p2).bind fun v3 => (if v3 = 0 then some (-1) else (if p3 < 0 then some (-2) else (if 0 < (lg_cmp (p4 : Int32).toInt64 2000000000) then some (-2) else (if p3 ≤ p4 then (f_X12_totalOf h N p0 p1 p2).bind fun v8 => (if 0 ≤ (v8 - p3) then (if (v8 - p3) ≤ (p4 - p3) then some (v8 - p3) else some (p4 - p3)) else some 0) else some (-2)))))) else none
theorem g_X12_layer {h : AH} {N : Nat} {p0 : Nat} {p1 : Int32} {p2 : Int32} {p3 : Int32} {p4 : Int32} {x : Int32} (e : f_X12_layer h N p0 p1 p2 p3 p4 = some x) : kd h p0 = 13 + 1 := by
  unfold f_X12_layer at e
  by_cases hk : kd h p0 = 13 + 1
  · exact hk
  · rw [if_neg hk] at e
    cases e
theorem km_X12_layer : KM yX12_layer M_X12_layer 4 := ⟨in_tb 1762 (by decide +kernel) rfl, in_tb 9 (by decide +kernel) rfl, by decide +kernel, rfl, rfl⟩
theorem hm_X12_layer : M_X12_layer.2.2.2.2.2.1 = 0 ∧ M_X12_layer.2.2.2.2.2.2.1 = 0 := ⟨rfl, rfl⟩
section
variable {l : Launch} {g : GG}
end
set_option maxRecDepth 100000 in
set_option maxHeartbeats 4000000 in
theorem c_X12_layer (l : Launch) (g : GG) (h : AH) (N : Nat) (p0 : Nat) (p1 : Int32) (p2 : Int32) (p3 : Int32) (p4 : Int32) : CN l g yX12_layer M_X12_layer false [.ref p0, .int p1, .int p2, .int p3, .int p4] h ((rPi h)) (f_X12_layer h N p0 p1 p2 p3 p4) := by
  refine CN.of (by decide) rfl (fun hh => by first | rfl | cases hh) (Nat.le_of_ble_eq_true rfl) ?_
  unfold f_X12_layer
  refine a_gd (fun hkd => ?_)
  refine a_iload_n dX12_layer_0 rfl 1 rfl ?_
  refine a_cS_Pi (as := [.int p1]) (st := []) dX12_layer_1 (c_X12_isSeason l g h p1) rfl km_X12_isSeason (hm_X12_isSeason) w_methodLink_RainCoverModel_221 w_static_RainCoverModel_isSeason__I_Z ⟨⟨by decide, by decide⟩, ⟨by decide, by decide⟩⟩ (Nat.le_of_ble_eq_true rfl) (fun v1 => ?_)
  refine a_if_eq 14 dX12_layer_4 (by decide) (fun c2 => ?_) (fun c2 => ?_)
  · refine a_iconst (v := (-1)) dX12_layer_14 (by decide) ?_
    exact a_iret dX12_layer_15 rfl rfl (by decide) (by decide)
  · refine a_iload_n dX12_layer_7 rfl 2 rfl ?_
    refine a_cS_Pi (as := [.int p2]) (st := []) dX12_layer_8 (c_X12_isSeason l g h p2) rfl km_X12_isSeason (hm_X12_isSeason) w_methodLink_RainCoverModel_221 w_static_RainCoverModel_isSeason__I_Z ⟨⟨by decide, by decide⟩, ⟨by decide, by decide⟩⟩ (Nat.le_of_ble_eq_true rfl) (fun v3 => ?_)
    refine a_if_ne 16 dX12_layer_11 (by decide) (fun c4 => ?_) (fun c4 => ?_)
    · refine a_iconst (v := (-1)) dX12_layer_14 (by decide) ?_
      exact a_iret dX12_layer_15 rfl rfl (by decide) (by decide)
    · refine a_iload_n dX12_layer_16 rfl 3 rfl ?_
      refine a_if_lt 36 dX12_layer_17 (by decide) (fun c5 => ?_) (fun c5 => ?_)
      · refine a_bipush (v := (-2)) dX12_layer_36 (by decide) ?_
        exact a_iret dX12_layer_38 rfl rfl (by decide) (by decide)
      · refine a_iload dX12_layer_20 4 rfl ?_
        refine a_i2l dX12_layer_22 ?_
        refine a_ldc2 (v := 2000000000) dX12_layer_23 w_constantLong_RainCoverModel_415 ?_
        refine a_lcmp dX12_layer_26 ?_
        refine a_if_gt 36 dX12_layer_27 (by decide) (fun c6 => ?_) (fun c6 => ?_)
        · refine a_bipush (v := (-2)) dX12_layer_36 (by decide) ?_
          exact a_iret dX12_layer_38 rfl rfl (by decide) (by decide)
        · refine a_iload_n dX12_layer_30 rfl 3 rfl ?_
          refine a_iload dX12_layer_31 4 rfl ?_
          refine a_icmp_le 39 dX12_layer_33 (by decide) (fun c7 => ?_) (fun c7 => ?_)
          · refine a_aload_n dX12_layer_39 rfl 0 rfl ?_
            refine a_iload_n dX12_layer_40 rfl 1 rfl ?_
            refine a_iload_n dX12_layer_41 rfl 2 rfl ?_
            refine a_cV_Pi (r := p0) (ci := 13) (as := [.int p1, .int p2]) (st := []) dX12_layer_42 (c_X12_totalOf l g h N p0 p1 p2) rfl km_X12_totalOf (hm_X12_totalOf) rfl (by decide) rfl (fun _ ee => g_X12_totalOf ee) w_methodLink_RainCoverModel_412 w_instanceMethod_RainCoverModel_totalOf__II_I w_selects_RainCoverModel_RainCoverModel_totalOf__II_I_RainCoverModel_totalOf__II_I ⟨⟨by decide, by decide⟩, ⟨by decide, by decide⟩⟩ (Nat.le_of_ble_eq_true rfl) (fun v8 => ?_)
            refine a_iload_n dX12_layer_45 rfl 3 rfl ?_
            refine a_isub dX12_layer_46 ?_
            refine a_istore (lc2 := [(5, .int (v8 - p3)), (0, .ref p0), (1, .int p1), (2, .int p2), (3, .int p3), (4, .int p4)]) dX12_layer_47 (by decide) rfl ?_
            refine a_iload dX12_layer_49 0 rfl ?_
            refine a_if_ge 58 dX12_layer_51 (by decide) (fun c9 => ?_) (fun c9 => ?_)
            · refine a_iload dX12_layer_58 0 rfl ?_
              refine a_iload dX12_layer_60 5 rfl ?_
              refine a_iload_n dX12_layer_62 rfl 4 rfl ?_
              refine a_isub dX12_layer_63 ?_
              refine a_icmp_le 74 dX12_layer_64 (by decide) (fun c10 => ?_) (fun c10 => ?_)
              · refine a_iload dX12_layer_74 0 rfl ?_
                exact a_iret dX12_layer_76 rfl rfl (by decide) (by decide)
              · refine a_iload dX12_layer_67 5 rfl ?_
                refine a_iload_n dX12_layer_69 rfl 4 rfl ?_
                refine a_isub dX12_layer_70 ?_
                refine a_goto 76 dX12_layer_71 (by decide) ?_
                exact a_iret dX12_layer_76 rfl rfl (by decide) (by decide)
            · refine a_iconst (v := 0) dX12_layer_54 (by decide) ?_
              refine a_goto 76 dX12_layer_55 (by decide) ?_
              exact a_iret dX12_layer_76 rfl rfl (by decide) (by decide)
          · refine a_bipush (v := (-2)) dX12_layer_36 (by decide) ?_
            exact a_iret dX12_layer_38 rfl rfl (by decide) (by decide)
theorem dX12_lots_0 : decode cX12_lots 0 = .ok (.aload_n 0, 1) := by decide +kernel
theorem dX12_lots_1 : decode cX12_lots 1 = .ok (.iload_n 1, 1) := by decide +kernel
theorem dX12_lots_2 : decode cX12_lots 2 = .ok (.putfield 166, 3) := by decide +kernel
theorem dX12_lots_5 : decode cX12_lots 5 = .ok (.iconst 1, 1) := by decide +kernel
theorem dX12_lots_6 : decode cX12_lots 6 = .ok (.ireturn, 1) := by decide +kernel
abbrev M_X12_lots : MI := (RX12, cX12_lots, 2, (some .int), ({ frames := 0, cells := 0, slots := 0, locals := 0 } : Room), 0, 0, false)
def f_X12_lots (h0 : AH) (p0 : Nat) (p1 : Int32) : Option (Int32 × AH) := if kd h0 p0 = 13 + 1 then (xpi h0 p0 13 61 p1).bind fun h1 => some (1, h1) else none
theorem g_X12_lots {h0 : AH} {p0 : Nat} {p1 : Int32} {x : (Int32 × AH)} (e : f_X12_lots h0 p0 p1 = some x) : kd h0 p0 = 13 + 1 := by
  unfold f_X12_lots at e
  by_cases hk : kd h0 p0 = 13 + 1
  · exact hk
  · rw [if_neg hk] at e
    cases e
theorem km_X12_lots : KM yX12_lots M_X12_lots 1 := ⟨in_tb 1767 (by decide +kernel) rfl, in_tb 9 (by decide +kernel) rfl, by decide +kernel, rfl, rfl⟩
theorem hm_X12_lots : M_X12_lots.2.2.2.2.2.1 = 0 ∧ M_X12_lots.2.2.2.2.2.2.1 = 0 := ⟨rfl, rfl⟩
section
variable {l : Launch} {g : GG}
end
set_option maxRecDepth 100000 in
set_option maxHeartbeats 4000000 in
theorem c_X12_lots (l : Launch) (g : GG) (h0 : AH) (p0 : Nat) (p1 : Int32) : CN l g yX12_lots M_X12_lots false [.ref p0, .int p1] h0 rSi (f_X12_lots h0 p0 p1) := by
  refine CN.of (by decide) rfl (fun hh => by first | rfl | cases hh) (Nat.le_of_ble_eq_true rfl) ?_
  unfold f_X12_lots
  refine a_gd (fun hkd => ?_)
  refine a_aload_n dX12_lots_0 rfl 0 rfl ?_
  refine a_iload_n dX12_lots_1 rfl 1 rfl ?_
  refine a_puti kc13 61 dX12_lots_2 (by decide) rfl w_fieldLink_RainCoverModel_166 rfl rfl (fun h1 => ?_)
  refine a_iconst (v := 1) dX12_lots_5 (by decide) ?_
  exact a_iret dX12_lots_6 rfl rfl (by decide) (by decide)
theorem dX12_years_0 : decode cX12_years 0 = .ok (.iconst 0, 1) := by decide +kernel
theorem dX12_years_1 : decode cX12_years 1 = .ok (.istore_n 2, 1) := by decide +kernel
theorem dX12_years_2 : decode cX12_years 2 = .ok (.iconst 0, 1) := by decide +kernel
theorem dX12_years_3 : decode cX12_years 3 = .ok (.istore_n 3, 1) := by decide +kernel
theorem dX12_years_4 : decode cX12_years 4 = .ok (.iload_n 3, 1) := by decide +kernel
theorem dX12_years_5 : decode cX12_years 5 = .ok (.bipush 16, 2) := by decide +kernel
theorem dX12_years_7 : decode cX12_years 7 = .ok (.if_icmp .ge 107, 3) := by decide +kernel
theorem dX12_years_10 : decode cX12_years 10 = .ok (.iconst 1, 1) := by decide +kernel
theorem dX12_years_11 : decode cX12_years 11 = .ok (.istore 4, 2) := by decide +kernel
theorem dX12_years_13 : decode cX12_years 13 = .ok (.iconst 0, 1) := by decide +kernel
theorem dX12_years_14 : decode cX12_years 14 = .ok (.istore 5, 2) := by decide +kernel
theorem dX12_years_16 : decode cX12_years 16 = .ok (.iconst 0, 1) := by decide +kernel
theorem dX12_years_17 : decode cX12_years 17 = .ok (.istore 6, 2) := by decide +kernel
theorem dX12_years_19 : decode cX12_years 19 = .ok (.iload 6, 2) := by decide +kernel
theorem dX12_years_21 : decode cX12_years 21 = .ok (.aload_n 0, 1) := by decide +kernel
theorem dX12_years_22 : decode cX12_years 22 = .ok (.getfield 208, 3) := by decide +kernel
theorem dX12_years_25 : decode cX12_years 25 = .ok (.if_icmp .ge 63, 3) := by decide +kernel
theorem dX12_years_28 : decode cX12_years 28 = .ok (.iload 5, 2) := by decide +kernel
theorem dX12_years_30 : decode cX12_years 30 = .ok (.ifCond .ne 13, 3) := by decide +kernel
theorem dX12_years_33 : decode cX12_years 33 = .ok (.aload_n 0, 1) := by decide +kernel
theorem dX12_years_34 : decode cX12_years 34 = .ok (.iload 6, 2) := by decide +kernel
theorem dX12_years_36 : decode cX12_years 36 = .ok (.iload_n 1, 1) := by decide +kernel
theorem dX12_years_37 : decode cX12_years 37 = .ok (.invokevirtual 337, 3) := by decide +kernel
theorem dX12_years_40 : decode cX12_years 40 = .ok (.ifCond .eq 7, 3) := by decide +kernel
theorem dX12_years_43 : decode cX12_years 43 = .ok (.iconst 1, 1) := by decide +kernel
theorem dX12_years_44 : decode cX12_years 44 = .ok (.goto 4, 3) := by decide +kernel
theorem dX12_years_47 : decode cX12_years 47 = .ok (.iconst 0, 1) := by decide +kernel
theorem dX12_years_48 : decode cX12_years 48 = .ok (.istore 5, 2) := by decide +kernel
theorem dX12_years_50 : decode cX12_years 50 = .ok (.iload 4, 2) := by decide +kernel
theorem dX12_years_52 : decode cX12_years 52 = .ok (.ifCond .eq 27, 3) := by decide +kernel
theorem dX12_years_55 : decode cX12_years 55 = .ok (.aload_n 0, 1) := by decide +kernel
theorem dX12_years_56 : decode cX12_years 56 = .ok (.iload 6, 2) := by decide +kernel
theorem dX12_years_58 : decode cX12_years 58 = .ok (.iload_n 1, 1) := by decide +kernel
theorem dX12_years_59 : decode cX12_years 59 = .ok (.invokevirtual 337, 3) := by decide +kernel
theorem dX12_years_62 : decode cX12_years 62 = .ok (.ifCond .eq 13, 3) := by decide +kernel
theorem dX12_years_65 : decode cX12_years 65 = .ok (.aload_n 0, 1) := by decide +kernel
theorem dX12_years_66 : decode cX12_years 66 = .ok (.iload 6, 2) := by decide +kernel
theorem dX12_years_68 : decode cX12_years 68 = .ok (.iload_n 3, 1) := by decide +kernel
theorem dX12_years_69 : decode cX12_years 69 = .ok (.invokevirtual 392, 3) := by decide +kernel
theorem dX12_years_72 : decode cX12_years 72 = .ok (.ifCond .eq 7, 3) := by decide +kernel
theorem dX12_years_75 : decode cX12_years 75 = .ok (.iconst 1, 1) := by decide +kernel
theorem dX12_years_76 : decode cX12_years 76 = .ok (.goto 4, 3) := by decide +kernel
theorem dX12_years_79 : decode cX12_years 79 = .ok (.iconst 0, 1) := by decide +kernel
theorem dX12_years_80 : decode cX12_years 80 = .ok (.istore 4, 2) := by decide +kernel
theorem dX12_years_82 : decode cX12_years 82 = .ok (.iinc 6 1, 3) := by decide +kernel
theorem dX12_years_85 : decode cX12_years 85 = .ok (.goto (-66), 3) := by decide +kernel
theorem dX12_years_88 : decode cX12_years 88 = .ok (.iload 4, 2) := by decide +kernel
theorem dX12_years_90 : decode cX12_years 90 = .ok (.ifCond .eq 18, 3) := by decide +kernel
theorem dX12_years_93 : decode cX12_years 93 = .ok (.iload 5, 2) := by decide +kernel
theorem dX12_years_95 : decode cX12_years 95 = .ok (.ifCond .eq 13, 3) := by decide +kernel
theorem dX12_years_98 : decode cX12_years 98 = .ok (.aload_n 0, 1) := by decide +kernel
theorem dX12_years_99 : decode cX12_years 99 = .ok (.getfield 191, 3) := by decide +kernel
theorem dX12_years_102 : decode cX12_years 102 = .ok (.iload_n 2, 1) := by decide +kernel
theorem dX12_years_103 : decode cX12_years 103 = .ok (.iload_n 3, 1) := by decide +kernel
theorem dX12_years_104 : decode cX12_years 104 = .ok (.iastore, 1) := by decide +kernel
theorem dX12_years_105 : decode cX12_years 105 = .ok (.iinc 2 1, 3) := by decide +kernel
theorem dX12_years_108 : decode cX12_years 108 = .ok (.iinc 3 1, 3) := by decide +kernel
theorem dX12_years_111 : decode cX12_years 111 = .ok (.goto (-107), 3) := by decide +kernel
theorem dX12_years_114 : decode cX12_years 114 = .ok (.iload_n 2, 1) := by decide +kernel
theorem dX12_years_115 : decode cX12_years 115 = .ok (.ireturn, 1) := by decide +kernel
abbrev M_X12_years : MI := (RX12, cX12_years, 7, (some .int), ({ frames := 3, cells := 0, slots := 0, locals := 70 } : Room), 0, 0, false)
def f_X12_years_b80 (N : Nat) (K4 : AH → Nat → Int32 → Int32 → Int32 → Option (Int32 × AH)) (K19 : AH → Nat → Int32 → Int32 → Int32 → Int32 → Int32 → Int32 → Option (Int32 × AH)) (h : AH) (x0 : Nat) (x1 : Int32) (x2 : Int32) (x3 : Int32) (x5 : Int32) (x6 : Int32) (s6 : Int32) : Option (Int32 × AH) := K19 h x0 x1 x2 x3 s6 x5 (x6 + 1)
def f_X12_years_b75 (N : Nat) (K4 : AH → Nat → Int32 → Int32 → Int32 → Option (Int32 × AH)) (K19 : AH → Nat → Int32 → Int32 → Int32 → Int32 → Int32 → Int32 → Option (Int32 × AH)) (h : AH) (x0 : Nat) (x1 : Int32) (x2 : Int32) (x3 : Int32) (x5 : Int32) (x6 : Int32) : Option (Int32 × AH) := f_X12_years_b80 N K4 K19 h x0 x1 x2 x3 x5 x6 1
def f_X12_years_b79 (N : Nat) (K4 : AH → Nat → Int32 → Int32 → Int32 → Option (Int32 × AH)) (K19 : AH → Nat → Int32 → Int32 → Int32 → Int32 → Int32 → Int32 → Option (Int32 × AH)) (h : AH) (x0 : Nat) (x1 : Int32) (x2 : Int32) (x3 : Int32) (x5 : Int32) (x6 : Int32) : Option (Int32 × AH) := f_X12_years_b80 N K4 K19 h x0 x1 x2 x3 x5 x6 0
def f_X12_years_b48 (N : Nat) (K4 : AH → Nat → Int32 → Int32 → Int32 → Option (Int32 × AH)) (K19 : AH → Nat → Int32 → Int32 → Int32 → Int32 → Int32 → Int32 → Option (Int32 × AH)) (h : AH) (x0 : Nat) (x1 : Int32) (x2 : Int32) (x3 : Int32) (x4 : Int32) (x6 : Int32) (s6 : Int32) : Option (Int32 × AH) := (if x4 = 0 then f_X12_years_b79 N K4 K19 h x0 x1 x2 x3 s6 x6 else (f_X12_stands h x0 x6 x1).bind fun v12 => (if v12 = 0 then f_X12_years_b75 N K4 K19 h x0 x1 x2 x3 s6 x6 else (f_X12_isKnown h N x0 x6 x3).bind fun v14 => (if v14 = 0 then f_X12_years_b79 N K4 K19 h x0 x1 x2 x3 s6 x6 else f_X12_years_b75 N K4 K19 h x0 x1 x2 x3 s6 x6)))
def f_X12_years_b43 (N : Nat) (K4 : AH → Nat → Int32 → Int32 → Int32 → Option (Int32 × AH)) (K19 : AH → Nat → Int32 → Int32 → Int32 → Int32 → Int32 → Int32 → Option (Int32 × AH)) (h : AH) (x0 : Nat) (x1 : Int32) (x2 : Int32) (x3 : Int32) (x4 : Int32) (x6 : Int32) : Option (Int32 × AH) := f_X12_years_b48 N K4 K19 h x0 x1 x2 x3 x4 x6 1
def f_X12_years_b108 (N : Nat) (K4 : AH → Nat → Int32 → Int32 → Int32 → Option (Int32 × AH)) (h : AH) (x0 : Nat) (x1 : Int32) (x2 : Int32) (x3 : Int32) : Option (Int32 × AH) := K4 h x0 x1 x2 (x3 + 1)
def f_X12_years_b19_body (N : Nat) (K4 : AH → Nat → Int32 → Int32 → Int32 → Option (Int32 × AH)) (K19 : AH → Nat → Int32 → Int32 → Int32 → Int32 → Int32 → Int32 → Option (Int32 × AH)) (h : AH) (x0 : Nat) (x1 : Int32) (x2 : Int32) (x3 : Int32) (x4 : Int32) (x5 : Int32) (x6 : Int32) : Option (Int32 × AH) := (xgi h x0 13 0).bind fun v2 => (if v2 ≤ x6 then (if x4 = 0 then f_X12_years_b108 N K4 h x0 x1 x2 x3 else (if x5 = 0 then f_X12_years_b108 N K4 h x0 x1 x2 x3 else (xgr h x0 13 74).bind fun v6 => (xis h v6 x2 x3).bind fun h7 => f_X12_years_b108 N K4 h7 x0 x1 (x2 + 1) x3)) else (if x5 = 0 then (f_X12_stands h x0 x6 x1).bind fun v9 => (if v9 = 0 then f_X12_years_b48 N K4 K19 h x0 x1 x2 x3 x4 x6 0 else f_X12_years_b43 N K4 K19 h x0 x1 x2 x3 x4 x6) else f_X12_years_b43 N K4 K19 h x0 x1 x2 x3 x4 x6))
def f_X12_years_b19 (N : Nat) (K4 : AH → Nat → Int32 → Int32 → Int32 → Option (Int32 × AH)) : Nat → AH → Nat → Int32 → Int32 → Int32 → Int32 → Int32 → Int32 → Option (Int32 × AH)
  | 0, _, _, _, _, _, _, _, _ => none
  | n + 1, h, x0, x1, x2, x3, x4, x5, x6 => f_X12_years_b19_body N K4 (f_X12_years_b19 N K4 n) h x0 x1 x2 x3 x4 x5 x6
def f_X12_years_b4_body (N : Nat) (K4 : AH → Nat → Int32 → Int32 → Int32 → Option (Int32 × AH)) (h : AH) (x0 : Nat) (x1 : Int32) (x2 : Int32) (x3 : Int32) : Option (Int32 × AH) := (if 16 ≤ x3 then some (x2, h) else f_X12_years_b19 N K4 N h x0 x1 x2 x3 1 0 0)
def f_X12_years_b4 (N : Nat) : Nat → AH → Nat → Int32 → Int32 → Int32 → Option (Int32 × AH)
  | 0, _, _, _, _, _ => none
  | n + 1, h, x0, x1, x2, x3 => f_X12_years_b4_body N  (f_X12_years_b4 N  n) h x0 x1 x2 x3
def f_X12_years (h0 : AH) (N : Nat) (p0 : Nat) (p1 : Int32) : Option (Int32 × AH) := if kd h0 p0 = 13 + 1 then f_X12_years_b4 N N h0 p0 p1 0 0 else none
theorem g_X12_years {h0 : AH} {N : Nat} {p0 : Nat} {p1 : Int32} {x : (Int32 × AH)} (e : f_X12_years h0 N p0 p1 = some x) : kd h0 p0 = 13 + 1 := by
  unfold f_X12_years at e
  by_cases hk : kd h0 p0 = 13 + 1
  · exact hk
  · rw [if_neg hk] at e
    cases e
theorem km_X12_years : KM yX12_years M_X12_years 1 := ⟨in_tb 1775 (by decide +kernel) rfl, in_tb 9 (by decide +kernel) rfl, by decide +kernel, rfl, rfl⟩
theorem hm_X12_years : M_X12_years.2.2.2.2.2.1 = 0 ∧ M_X12_years.2.2.2.2.2.2.1 = 0 := ⟨rfl, rfl⟩
section
variable {l : Launch} {g : GG}
set_option maxRecDepth 100000 in
set_option maxHeartbeats 4000000 in
theorem t_X12_years_b80 (h0 : AH) (N : Nat) (K4 : AH → Nat → Int32 → Int32 → Int32 → Option (Int32 × AH)) (hK4 : ∀ (z : AH) (z0 : Nat) (z1 : Int32) (z2 : Int32) (z3 : Int32), AO l g M_X12_years false h0 4 [(0, .ref z0), (1, .int z1), (2, .int z2), (3, .int z3)] [] z 0 0 rSi (K4 z z0 z1 z2 z3)) (K19 : AH → Nat → Int32 → Int32 → Int32 → Int32 → Int32 → Int32 → Option (Int32 × AH)) (hK19 : ∀ (z : AH) (z0 : Nat) (z1 : Int32) (z2 : Int32) (z3 : Int32) (z4 : Int32) (z5 : Int32) (z6 : Int32), AO l g M_X12_years false h0 19 [(0, .ref z0), (1, .int z1), (2, .int z2), (3, .int z3), (4, .int z4), (5, .int z5), (6, .int z6)] [] z 0 0 rSi (K19 z z0 z1 z2 z3 z4 z5 z6)) (h : AH) (x0 : Nat) (x1 : Int32) (x2 : Int32) (x3 : Int32) (x5 : Int32) (x6 : Int32) (s6 : Int32) : AO l g M_X12_years false h0 80 [(0, .ref x0), (1, .int x1), (2, .int x2), (3, .int x3), (5, .int x5), (6, .int x6)] [.int s6] h 0 0 rSi (f_X12_years_b80 N K4 K19 h x0 x1 x2 x3 x5 x6 s6) := by
  unfold f_X12_years_b80
  refine a_istore (lc2 := [(4, .int s6), (0, .ref x0), (1, .int x1), (2, .int x2), (3, .int x3), (5, .int x5), (6, .int x6)]) dX12_years_80 (by decide) rfl ?_
  refine a_iinc (q := 6) (v := (x6 + 1)) (lc2 := [(6, .int (x6 + 1)), (4, .int s6), (0, .ref x0), (1, .int x1), (2, .int x2), (3, .int x3), (5, .int x5)]) dX12_years_82 rfl rfl (by decide) rfl ?_
  refine a_goto 19 dX12_years_85 (by decide) ?_
  refine a_pick (lc2 := [(0, .ref x0), (1, .int x1), (2, .int x2), (3, .int x3), (4, .int s6), (5, .int x5), (6, .int (x6 + 1))]) [2, 3, 4, 5, 1, 6, 0] rfl ?_
  exact hK19 h x0 x1 x2 x3 s6 x5 (x6 + 1)
set_option maxRecDepth 100000 in
set_option maxHeartbeats 4000000 in
theorem t_X12_years_b75 (h0 : AH) (N : Nat) (K4 : AH → Nat → Int32 → Int32 → Int32 → Option (Int32 × AH)) (hK4 : ∀ (z : AH) (z0 : Nat) (z1 : Int32) (z2 : Int32) (z3 : Int32), AO l g M_X12_years false h0 4 [(0, .ref z0), (1, .int z1), (2, .int z2), (3, .int z3)] [] z 0 0 rSi (K4 z z0 z1 z2 z3)) (K19 : AH → Nat → Int32 → Int32 → Int32 → Int32 → Int32 → Int32 → Option (Int32 × AH)) (hK19 : ∀ (z : AH) (z0 : Nat) (z1 : Int32) (z2 : Int32) (z3 : Int32) (z4 : Int32) (z5 : Int32) (z6 : Int32), AO l g M_X12_years false h0 19 [(0, .ref z0), (1, .int z1), (2, .int z2), (3, .int z3), (4, .int z4), (5, .int z5), (6, .int z6)] [] z 0 0 rSi (K19 z z0 z1 z2 z3 z4 z5 z6)) (h : AH) (x0 : Nat) (x1 : Int32) (x2 : Int32) (x3 : Int32) (x5 : Int32) (x6 : Int32) : AO l g M_X12_years false h0 75 [(0, .ref x0), (1, .int x1), (2, .int x2), (3, .int x3), (5, .int x5), (6, .int x6)] [] h 0 0 rSi (f_X12_years_b75 N K4 K19 h x0 x1 x2 x3 x5 x6) := by
  unfold f_X12_years_b75
  refine a_iconst (v := 1) dX12_years_75 (by decide) ?_
  refine a_goto 80 dX12_years_76 (by decide) ?_
  exact t_X12_years_b80 h0 N K4 hK4 K19 hK19 h x0 x1 x2 x3 x5 x6 1
set_option maxRecDepth 100000 in
set_option maxHeartbeats 4000000 in
theorem t_X12_years_b79 (h0 : AH) (N : Nat) (K4 : AH → Nat → Int32 → Int32 → Int32 → Option (Int32 × AH)) (hK4 : ∀ (z : AH) (z0 : Nat) (z1 : Int32) (z2 : Int32) (z3 : Int32), AO l g M_X12_years false h0 4 [(0, .ref z0), (1, .int z1), (2, .int z2), (3, .int z3)] [] z 0 0 rSi (K4 z z0 z1 z2 z3)) (K19 : AH → Nat → Int32 → Int32 → Int32 → Int32 → Int32 → Int32 → Option (Int32 × AH)) (hK19 : ∀ (z : AH) (z0 : Nat) (z1 : Int32) (z2 : Int32) (z3 : Int32) (z4 : Int32) (z5 : Int32) (z6 : Int32), AO l g M_X12_years false h0 19 [(0, .ref z0), (1, .int z1), (2, .int z2), (3, .int z3), (4, .int z4), (5, .int z5), (6, .int z6)] [] z 0 0 rSi (K19 z z0 z1 z2 z3 z4 z5 z6)) (h : AH) (x0 : Nat) (x1 : Int32) (x2 : Int32) (x3 : Int32) (x5 : Int32) (x6 : Int32) : AO l g M_X12_years false h0 79 [(0, .ref x0), (1, .int x1), (2, .int x2), (3, .int x3), (5, .int x5), (6, .int x6)] [] h 0 0 rSi (f_X12_years_b79 N K4 K19 h x0 x1 x2 x3 x5 x6) := by
  unfold f_X12_years_b79
  refine a_iconst (v := 0) dX12_years_79 (by decide) ?_
  exact t_X12_years_b80 h0 N K4 hK4 K19 hK19 h x0 x1 x2 x3 x5 x6 0
set_option maxRecDepth 100000 in
set_option maxHeartbeats 4000000 in
theorem t_X12_years_b48 (h0 : AH) (N : Nat) (K4 : AH → Nat → Int32 → Int32 → Int32 → Option (Int32 × AH)) (hK4 : ∀ (z : AH) (z0 : Nat) (z1 : Int32) (z2 : Int32) (z3 : Int32), AO l g M_X12_years false h0 4 [(0, .ref z0), (1, .int z1), (2, .int z2), (3, .int z3)] [] z 0 0 rSi (K4 z z0 z1 z2 z3)) (K19 : AH → Nat → Int32 → Int32 → Int32 → Int32 → Int32 → Int32 → Option (Int32 × AH)) (hK19 : ∀ (z : AH) (z0 : Nat) (z1 : Int32) (z2 : Int32) (z3 : Int32) (z4 : Int32) (z5 : Int32) (z6 : Int32), AO l g M_X12_years false h0 19 [(0, .ref z0), (1, .int z1), (2, .int z2), (3, .int z3), (4, .int z4), (5, .int z5), (6, .int z6)] [] z 0 0 rSi (K19 z z0 z1 z2 z3 z4 z5 z6)) (h : AH) (x0 : Nat) (x1 : Int32) (x2 : Int32) (x3 : Int32) (x4 : Int32) (x6 : Int32) (s6 : Int32) : AO l g M_X12_years false h0 48 [(0, .ref x0), (1, .int x1), (2, .int x2), (3, .int x3), (4, .int x4), (6, .int x6)] [.int s6] h 0 0 rSi (f_X12_years_b48 N K4 K19 h x0 x1 x2 x3 x4 x6 s6) := by
  unfold f_X12_years_b48
  refine a_istore (lc2 := [(5, .int s6), (0, .ref x0), (1, .int x1), (2, .int x2), (3, .int x3), (4, .int x4), (6, .int x6)]) dX12_years_48 (by decide) rfl ?_
  refine a_iload dX12_years_50 5 rfl ?_
  refine a_if_eq 79 dX12_years_52 (by decide) (fun c11 => ?_) (fun c11 => ?_)
  · refine a_pick (lc2 := [(0, .ref x0), (1, .int x1), (2, .int x2), (3, .int x3), (5, .int s6), (6, .int x6)]) [1, 2, 3, 4, 0, 6] rfl ?_
    exact t_X12_years_b79 h0 N K4 hK4 K19 hK19 h x0 x1 x2 x3 s6 x6
  · refine a_aload_n dX12_years_55 rfl 1 rfl ?_
    refine a_iload dX12_years_56 6 rfl ?_
    refine a_iload_n dX12_years_58 rfl 2 rfl ?_
    refine a_cV_Pi (r := x0) (ci := 13) (as := [.int x6, .int x1]) (st := []) dX12_years_59 (c_X12_stands l g h x0 x6 x1) rfl km_X12_stands (hm_X12_stands) rfl (by decide) rfl (fun _ ee => g_X12_stands ee) w_methodLink_RainCoverModel_337 w_instanceMethod_RainCoverModel_stands__II_Z w_selects_RainCoverModel_RainCoverModel_stands__II_Z_RainCoverModel_stands__II_Z ⟨⟨by decide, by decide⟩, ⟨by decide, by decide⟩⟩ (Nat.le_of_ble_eq_true rfl) (fun v12 => ?_)
    refine a_if_eq 75 dX12_years_62 (by decide) (fun c13 => ?_) (fun c13 => ?_)
    · refine a_pick (lc2 := [(0, .ref x0), (1, .int x1), (2, .int x2), (3, .int x3), (5, .int s6), (6, .int x6)]) [1, 2, 3, 4, 0, 6] rfl ?_
      exact t_X12_years_b75 h0 N K4 hK4 K19 hK19 h x0 x1 x2 x3 s6 x6
    · refine a_aload_n dX12_years_65 rfl 1 rfl ?_
      refine a_iload dX12_years_66 6 rfl ?_
      refine a_iload_n dX12_years_68 rfl 4 rfl ?_
      refine a_cV_Pi (r := x0) (ci := 13) (as := [.int x6, .int x3]) (st := []) dX12_years_69 (c_X12_isKnown l g h N x0 x6 x3) rfl km_X12_isKnown (hm_X12_isKnown) rfl (by decide) rfl (fun _ ee => g_X12_isKnown ee) w_methodLink_RainCoverModel_392 w_instanceMethod_RainCoverModel_isKnown__II_Z w_selects_RainCoverModel_RainCoverModel_isKnown__II_Z_RainCoverModel_isKnown__II_Z ⟨⟨by decide, by decide⟩, ⟨by decide, by decide⟩⟩ (Nat.le_of_ble_eq_true rfl) (fun v14 => ?_)
      refine a_if_eq 79 dX12_years_72 (by decide) (fun c15 => ?_) (fun c15 => ?_)
      · refine a_pick (lc2 := [(0, .ref x0), (1, .int x1), (2, .int x2), (3, .int x3), (5, .int s6), (6, .int x6)]) [1, 2, 3, 4, 0, 6] rfl ?_
        exact t_X12_years_b79 h0 N K4 hK4 K19 hK19 h x0 x1 x2 x3 s6 x6
      · refine a_pick (lc2 := [(0, .ref x0), (1, .int x1), (2, .int x2), (3, .int x3), (5, .int s6), (6, .int x6)]) [1, 2, 3, 4, 0, 6] rfl ?_
        exact t_X12_years_b75 h0 N K4 hK4 K19 hK19 h x0 x1 x2 x3 s6 x6
set_option maxRecDepth 100000 in
set_option maxHeartbeats 4000000 in
theorem t_X12_years_b43 (h0 : AH) (N : Nat) (K4 : AH → Nat → Int32 → Int32 → Int32 → Option (Int32 × AH)) (hK4 : ∀ (z : AH) (z0 : Nat) (z1 : Int32) (z2 : Int32) (z3 : Int32), AO l g M_X12_years false h0 4 [(0, .ref z0), (1, .int z1), (2, .int z2), (3, .int z3)] [] z 0 0 rSi (K4 z z0 z1 z2 z3)) (K19 : AH → Nat → Int32 → Int32 → Int32 → Int32 → Int32 → Int32 → Option (Int32 × AH)) (hK19 : ∀ (z : AH) (z0 : Nat) (z1 : Int32) (z2 : Int32) (z3 : Int32) (z4 : Int32) (z5 : Int32) (z6 : Int32), AO l g M_X12_years false h0 19 [(0, .ref z0), (1, .int z1), (2, .int z2), (3, .int z3), (4, .int z4), (5, .int z5), (6, .int z6)] [] z 0 0 rSi (K19 z z0 z1 z2 z3 z4 z5 z6)) (h : AH) (x0 : Nat) (x1 : Int32) (x2 : Int32) (x3 : Int32) (x4 : Int32) (x6 : Int32) : AO l g M_X12_years false h0 43 [(0, .ref x0), (1, .int x1), (2, .int x2), (3, .int x3), (4, .int x4), (6, .int x6)] [] h 0 0 rSi (f_X12_years_b43 N K4 K19 h x0 x1 x2 x3 x4 x6) := by
  unfold f_X12_years_b43
  refine a_iconst (v := 1) dX12_years_43 (by decide) ?_
  refine a_goto 48 dX12_years_44 (by decide) ?_
  exact t_X12_years_b48 h0 N K4 hK4 K19 hK19 h x0 x1 x2 x3 x4 x6 1
set_option maxRecDepth 100000 in
set_option maxHeartbeats 4000000 in
theorem t_X12_years_b108 (h0 : AH) (N : Nat) (K4 : AH → Nat → Int32 → Int32 → Int32 → Option (Int32 × AH)) (hK4 : ∀ (z : AH) (z0 : Nat) (z1 : Int32) (z2 : Int32) (z3 : Int32), AO l g M_X12_years false h0 4 [(0, .ref z0), (1, .int z1), (2, .int z2), (3, .int z3)] [] z 0 0 rSi (K4 z z0 z1 z2 z3)) (h : AH) (x0 : Nat) (x1 : Int32) (x2 : Int32) (x3 : Int32) : AO l g M_X12_years false h0 108 [(0, .ref x0), (1, .int x1), (2, .int x2), (3, .int x3)] [] h 0 0 rSi (f_X12_years_b108 N K4 h x0 x1 x2 x3) := by
  unfold f_X12_years_b108
  refine a_iinc (q := 3) (v := (x3 + 1)) (lc2 := [(3, .int (x3 + 1)), (0, .ref x0), (1, .int x1), (2, .int x2)]) dX12_years_108 rfl rfl (by decide) rfl ?_
  refine a_goto 4 dX12_years_111 (by decide) ?_
  refine a_pick (lc2 := [(0, .ref x0), (1, .int x1), (2, .int x2), (3, .int (x3 + 1))]) [1, 2, 3, 0] rfl ?_
  exact hK4 h x0 x1 x2 (x3 + 1)
set_option maxRecDepth 100000 in
set_option maxHeartbeats 4000000 in
theorem t_X12_years_b19_body (h0 : AH) (N : Nat) (K4 : AH → Nat → Int32 → Int32 → Int32 → Option (Int32 × AH)) (hK4 : ∀ (z : AH) (z0 : Nat) (z1 : Int32) (z2 : Int32) (z3 : Int32), AO l g M_X12_years false h0 4 [(0, .ref z0), (1, .int z1), (2, .int z2), (3, .int z3)] [] z 0 0 rSi (K4 z z0 z1 z2 z3)) (K19 : AH → Nat → Int32 → Int32 → Int32 → Int32 → Int32 → Int32 → Option (Int32 × AH)) (hK19 : ∀ (z : AH) (z0 : Nat) (z1 : Int32) (z2 : Int32) (z3 : Int32) (z4 : Int32) (z5 : Int32) (z6 : Int32), AO l g M_X12_years false h0 19 [(0, .ref z0), (1, .int z1), (2, .int z2), (3, .int z3), (4, .int z4), (5, .int z5), (6, .int z6)] [] z 0 0 rSi (K19 z z0 z1 z2 z3 z4 z5 z6)) (h : AH) (x0 : Nat) (x1 : Int32) (x2 : Int32) (x3 : Int32) (x4 : Int32) (x5 : Int32) (x6 : Int32) : AO l g M_X12_years false h0 19 [(0, .ref x0), (1, .int x1), (2, .int x2), (3, .int x3), (4, .int x4), (5, .int x5), (6, .int x6)] [] h 0 0 rSi (f_X12_years_b19_body N K4 K19 h x0 x1 x2 x3 x4 x5 x6) := by
  unfold f_X12_years_b19_body
  refine a_iload dX12_years_19 6 rfl ?_
  refine a_aload_n dX12_years_21 rfl 0 rfl ?_
  refine a_geti kc13 0 dX12_years_22 (by decide) rfl w_fieldLink_RainCoverModel_208 (fun v2 => ?_)
  refine a_icmp_ge 88 dX12_years_25 (by decide) (fun c3 => ?_) (fun c3 => ?_)
  · refine a_iload dX12_years_88 4 rfl ?_
    refine a_if_eq 108 dX12_years_90 (by decide) (fun c4 => ?_) (fun c4 => ?_)
    · refine a_pick (lc2 := [(0, .ref x0), (1, .int x1), (2, .int x2), (3, .int x3)]) [0, 1, 2, 3] rfl ?_
      exact t_X12_years_b108 h0 N K4 hK4 h x0 x1 x2 x3
    · refine a_iload dX12_years_93 5 rfl ?_
      refine a_if_eq 108 dX12_years_95 (by decide) (fun c5 => ?_) (fun c5 => ?_)
      · refine a_pick (lc2 := [(0, .ref x0), (1, .int x1), (2, .int x2), (3, .int x3)]) [0, 1, 2, 3] rfl ?_
        exact t_X12_years_b108 h0 N K4 hK4 h x0 x1 x2 x3
      · refine a_aload_n dX12_years_98 rfl 0 rfl ?_
        refine a_getr kc13 74 dX12_years_99 (by decide) rfl w_fieldLink_RainCoverModel_191 (fun v6 => ?_)
        refine a_iload_n dX12_years_102 rfl 2 rfl ?_
        refine a_iload_n dX12_years_103 rfl 3 rfl ?_
        refine a_iast dX12_years_104 (fun h7 => ?_)
        refine a_iinc (q := 2) (v := (x2 + 1)) (lc2 := [(2, .int (x2 + 1)), (0, .ref x0), (1, .int x1), (3, .int x3), (4, .int x4), (5, .int x5), (6, .int x6)]) dX12_years_105 rfl rfl (by decide) rfl ?_
        refine a_pick (lc2 := [(0, .ref x0), (1, .int x1), (2, .int (x2 + 1)), (3, .int x3)]) [1, 2, 0, 3] rfl ?_
        exact t_X12_years_b108 h0 N K4 hK4 h7 x0 x1 (x2 + 1) x3
  · refine a_iload dX12_years_28 5 rfl ?_
    refine a_if_ne 43 dX12_years_30 (by decide) (fun c8 => ?_) (fun c8 => ?_)
    · refine a_aload_n dX12_years_33 rfl 0 rfl ?_
      refine a_iload dX12_years_34 6 rfl ?_
      refine a_iload_n dX12_years_36 rfl 1 rfl ?_
      refine a_cV_Pi (r := x0) (ci := 13) (as := [.int x6, .int x1]) (st := []) dX12_years_37 (c_X12_stands l g h x0 x6 x1) rfl km_X12_stands (hm_X12_stands) rfl (by decide) rfl (fun _ ee => g_X12_stands ee) w_methodLink_RainCoverModel_337 w_instanceMethod_RainCoverModel_stands__II_Z w_selects_RainCoverModel_RainCoverModel_stands__II_Z_RainCoverModel_stands__II_Z ⟨⟨by decide, by decide⟩, ⟨by decide, by decide⟩⟩ (Nat.le_of_ble_eq_true rfl) (fun v9 => ?_)
      refine a_if_eq 47 dX12_years_40 (by decide) (fun c10 => ?_) (fun c10 => ?_)
      · refine a_iconst (v := 0) dX12_years_47 (by decide) ?_
        refine a_pick (lc2 := [(0, .ref x0), (1, .int x1), (2, .int x2), (3, .int x3), (4, .int x4), (6, .int x6)]) [0, 1, 2, 3, 4, 6] rfl ?_
        exact t_X12_years_b48 h0 N K4 hK4 K19 hK19 h x0 x1 x2 x3 x4 x6 0
      · refine a_pick (lc2 := [(0, .ref x0), (1, .int x1), (2, .int x2), (3, .int x3), (4, .int x4), (6, .int x6)]) [0, 1, 2, 3, 4, 6] rfl ?_
        exact t_X12_years_b43 h0 N K4 hK4 K19 hK19 h x0 x1 x2 x3 x4 x6
    · refine a_pick (lc2 := [(0, .ref x0), (1, .int x1), (2, .int x2), (3, .int x3), (4, .int x4), (6, .int x6)]) [0, 1, 2, 3, 4, 6] rfl ?_
      exact t_X12_years_b43 h0 N K4 hK4 K19 hK19 h x0 x1 x2 x3 x4 x6
set_option maxRecDepth 100000 in
set_option maxHeartbeats 4000000 in
theorem t_X12_years_b19 (h0 : AH) (N : Nat) (K4 : AH → Nat → Int32 → Int32 → Int32 → Option (Int32 × AH)) (hK4 : ∀ (z : AH) (z0 : Nat) (z1 : Int32) (z2 : Int32) (z3 : Int32), AO l g M_X12_years false h0 4 [(0, .ref z0), (1, .int z1), (2, .int z2), (3, .int z3)] [] z 0 0 rSi (K4 z z0 z1 z2 z3)) : ∀ (n : Nat) (h : AH) (x0 : Nat) (x1 : Int32) (x2 : Int32) (x3 : Int32) (x4 : Int32) (x5 : Int32) (x6 : Int32) , AO l g M_X12_years false h0 19 [(0, .ref x0), (1, .int x1), (2, .int x2), (3, .int x3), (4, .int x4), (5, .int x5), (6, .int x6)] [] h 0 0 rSi (f_X12_years_b19 N K4 n h x0 x1 x2 x3 x4 x5 x6) := by
  intro n
  induction n with
  | zero => intro h x0 x1 x2 x3 x4 x5 x6; exact a_eq rfl a_none
  | succ n ih => intro h x0 x1 x2 x3 x4 x5 x6; exact a_eq rfl (t_X12_years_b19_body h0 N (K4) (hK4) (f_X12_years_b19 N K4 n) ih h x0 x1 x2 x3 x4 x5 x6)
set_option maxRecDepth 100000 in
set_option maxHeartbeats 4000000 in
theorem t_X12_years_b4_body (h0 : AH) (N : Nat) (K4 : AH → Nat → Int32 → Int32 → Int32 → Option (Int32 × AH)) (hK4 : ∀ (z : AH) (z0 : Nat) (z1 : Int32) (z2 : Int32) (z3 : Int32), AO l g M_X12_years false h0 4 [(0, .ref z0), (1, .int z1), (2, .int z2), (3, .int z3)] [] z 0 0 rSi (K4 z z0 z1 z2 z3)) (h : AH) (x0 : Nat) (x1 : Int32) (x2 : Int32) (x3 : Int32) : AO l g M_X12_years false h0 4 [(0, .ref x0), (1, .int x1), (2, .int x2), (3, .int x3)] [] h 0 0 rSi (f_X12_years_b4_body N K4 h x0 x1 x2 x3) := by
  unfold f_X12_years_b4_body
  refine a_iload_n dX12_years_4 rfl 3 rfl ?_
  refine a_bipush (v := 16) dX12_years_5 (by decide) ?_
  refine a_icmp_ge 114 dX12_years_7 (by decide) (fun c1 => ?_) (fun c1 => ?_)
  · refine a_iload_n dX12_years_114 rfl 2 rfl ?_
    exact a_iret dX12_years_115 rfl rfl (by decide) (by decide)
  · refine a_iconst (v := 1) dX12_years_10 (by decide) ?_
    refine a_istore (lc2 := [(4, .int 1), (0, .ref x0), (1, .int x1), (2, .int x2), (3, .int x3)]) dX12_years_11 (by decide) rfl ?_
    refine a_iconst (v := 0) dX12_years_13 (by decide) ?_
    refine a_istore (lc2 := [(5, .int 0), (4, .int 1), (0, .ref x0), (1, .int x1), (2, .int x2), (3, .int x3)]) dX12_years_14 (by decide) rfl ?_
    refine a_iconst (v := 0) dX12_years_16 (by decide) ?_
    refine a_istore (lc2 := [(6, .int 0), (5, .int 0), (4, .int 1), (0, .ref x0), (1, .int x1), (2, .int x2), (3, .int x3)]) dX12_years_17 (by decide) rfl ?_
    refine a_pick (lc2 := [(0, .ref x0), (1, .int x1), (2, .int x2), (3, .int x3), (4, .int 1), (5, .int 0), (6, .int 0)]) [3, 4, 5, 6, 2, 1, 0] rfl ?_
    exact t_X12_years_b19 h0 N K4 hK4 N h x0 x1 x2 x3 1 0 0
set_option maxRecDepth 100000 in
set_option maxHeartbeats 4000000 in
theorem t_X12_years_b4 (h0 : AH) (N : Nat) : ∀ (n : Nat) (h : AH) (x0 : Nat) (x1 : Int32) (x2 : Int32) (x3 : Int32) , AO l g M_X12_years false h0 4 [(0, .ref x0), (1, .int x1), (2, .int x2), (3, .int x3)] [] h 0 0 rSi (f_X12_years_b4 N  n h x0 x1 x2 x3) := by
  intro n
  induction n with
  | zero => intro h x0 x1 x2 x3; exact a_eq rfl a_none
  | succ n ih => intro h x0 x1 x2 x3; exact a_eq rfl (t_X12_years_b4_body h0 N  (f_X12_years_b4 N  n) ih h x0 x1 x2 x3)
end
set_option maxRecDepth 100000 in
set_option maxHeartbeats 4000000 in
theorem c_X12_years (l : Launch) (g : GG) (h0 : AH) (N : Nat) (p0 : Nat) (p1 : Int32) : CN l g yX12_years M_X12_years false [.ref p0, .int p1] h0 rSi (f_X12_years h0 N p0 p1) := by
  refine CN.of (by decide) rfl (fun hh => by first | rfl | cases hh) (Nat.le_of_ble_eq_true rfl) ?_
  unfold f_X12_years
  refine a_gd (fun hkd => ?_)
  refine a_iconst (v := 0) dX12_years_0 (by decide) ?_
  refine a_istore_n (lc2 := [(2, .int 0), (0, .ref p0), (1, .int p1)]) dX12_years_1 rfl (by decide) rfl ?_
  refine a_iconst (v := 0) dX12_years_2 (by decide) ?_
  refine a_istore_n (lc2 := [(3, .int 0), (2, .int 0), (0, .ref p0), (1, .int p1)]) dX12_years_3 rfl (by decide) rfl ?_
  refine a_pick (lc2 := [(0, .ref p0), (1, .int p1), (2, .int 0), (3, .int 0)]) [2, 3, 1, 0] rfl ?_
  exact t_X12_years_b4 h0 N N h0 p0 p1 0 0
theorem dX12_lasts_0 : decode cX12_lasts 0 = .ok (.iload_n 2, 1) := by decide +kernel
theorem dX12_lasts_1 : decode cX12_lasts 1 = .ok (.invokestatic 221, 3) := by decide +kernel
theorem dX12_lasts_4 : decode cX12_lasts 4 = .ok (.ifCond .ne 5, 3) := by decide +kernel
theorem dX12_lasts_7 : decode cX12_lasts 7 = .ok (.iconst (-1), 1) := by decide +kernel
theorem dX12_lasts_8 : decode cX12_lasts 8 = .ok (.ireturn, 1) := by decide +kernel
theorem dX12_lasts_9 : decode cX12_lasts 9 = .ok (.iload_n 1, 1) := by decide +kernel
theorem dX12_lasts_10 : decode cX12_lasts 10 = .ok (.ifCond .lt 33, 3) := by decide +kernel
theorem dX12_lasts_13 : decode cX12_lasts 13 = .ok (.iload_n 1, 1) := by decide +kernel
theorem dX12_lasts_14 : decode cX12_lasts 14 = .ok (.i2l, 1) := by decide +kernel
theorem dX12_lasts_15 : decode cX12_lasts 15 = .ok (.ldc2_w 415, 3) := by decide +kernel
theorem dX12_lasts_18 : decode cX12_lasts 18 = .ok (.lcmp, 1) := by decide +kernel
theorem dX12_lasts_19 : decode cX12_lasts 19 = .ok (.ifCond .gt 24, 3) := by decide +kernel
theorem dX12_lasts_22 : decode cX12_lasts 22 = .ok (.iload_n 3, 1) := by decide +kernel
theorem dX12_lasts_23 : decode cX12_lasts 23 = .ok (.iconst 1, 1) := by decide +kernel
theorem dX12_lasts_24 : decode cX12_lasts 24 = .ok (.bipush 40, 2) := by decide +kernel
theorem dX12_lasts_26 : decode cX12_lasts 26 = .ok (.invokestatic 204, 3) := by decide +kernel
theorem dX12_lasts_29 : decode cX12_lasts 29 = .ok (.ifCond .eq 14, 3) := by decide +kernel
theorem dX12_lasts_32 : decode cX12_lasts 32 = .ok (.iload 4, 2) := by decide +kernel
theorem dX12_lasts_34 : decode cX12_lasts 34 = .ok (.iconst 1, 1) := by decide +kernel
theorem dX12_lasts_35 : decode cX12_lasts 35 = .ok (.bipush 40, 2) := by decide +kernel
theorem dX12_lasts_37 : decode cX12_lasts 37 = .ok (.invokestatic 204, 3) := by decide +kernel
theorem dX12_lasts_40 : decode cX12_lasts 40 = .ok (.ifCond .ne 6, 3) := by decide +kernel
theorem dX12_lasts_43 : decode cX12_lasts 43 = .ok (.bipush (-2), 2) := by decide +kernel
theorem dX12_lasts_45 : decode cX12_lasts 45 = .ok (.ireturn, 1) := by decide +kernel
theorem dX12_lasts_46 : decode cX12_lasts 46 = .ok (.aload_n 0, 1) := by decide +kernel
theorem dX12_lasts_47 : decode cX12_lasts 47 = .ok (.iload_n 2, 1) := by decide +kernel
theorem dX12_lasts_48 : decode cX12_lasts 48 = .ok (.invokevirtual 417, 3) := by decide +kernel
theorem dX12_lasts_51 : decode cX12_lasts 51 = .ok (.istore 5, 2) := by decide +kernel
theorem dX12_lasts_53 : decode cX12_lasts 53 = .ok (.iload 5, 2) := by decide +kernel
theorem dX12_lasts_55 : decode cX12_lasts 55 = .ok (.ifCond .ne 6, 3) := by decide +kernel
theorem dX12_lasts_58 : decode cX12_lasts 58 = .ok (.bipush (-3), 2) := by decide +kernel
theorem dX12_lasts_60 : decode cX12_lasts 60 = .ok (.ireturn, 1) := by decide +kernel
theorem dX12_lasts_61 : decode cX12_lasts 61 = .ok (.iconst 0, 1) := by decide +kernel
theorem dX12_lasts_62 : decode cX12_lasts 62 = .ok (.istore 6, 2) := by decide +kernel
theorem dX12_lasts_64 : decode cX12_lasts 64 = .ok (.iload 6, 2) := by decide +kernel
theorem dX12_lasts_66 : decode cX12_lasts 66 = .ok (.iload 5, 2) := by decide +kernel
theorem dX12_lasts_68 : decode cX12_lasts 68 = .ok (.if_icmp .ge 28, 3) := by decide +kernel
theorem dX12_lasts_71 : decode cX12_lasts 71 = .ok (.aload_n 0, 1) := by decide +kernel
theorem dX12_lasts_72 : decode cX12_lasts 72 = .ok (.getfield 194, 3) := by decide +kernel
theorem dX12_lasts_75 : decode cX12_lasts 75 = .ok (.iload 6, 2) := by decide +kernel
theorem dX12_lasts_77 : decode cX12_lasts 77 = .ok (.aload_n 0, 1) := by decide +kernel
theorem dX12_lasts_78 : decode cX12_lasts 78 = .ok (.aload_n 0, 1) := by decide +kernel
theorem dX12_lasts_79 : decode cX12_lasts 79 = .ok (.getfield 191, 3) := by decide +kernel
theorem dX12_lasts_82 : decode cX12_lasts 82 = .ok (.iload 6, 2) := by decide +kernel
theorem dX12_lasts_84 : decode cX12_lasts 84 = .ok (.iaload, 1) := by decide +kernel
theorem dX12_lasts_85 : decode cX12_lasts 85 = .ok (.iload_n 2, 1) := by decide +kernel
theorem dX12_lasts_86 : decode cX12_lasts 86 = .ok (.invokevirtual 412, 3) := by decide +kernel
theorem dX12_lasts_89 : decode cX12_lasts 89 = .ok (.iastore, 1) := by decide +kernel
theorem dX12_lasts_90 : decode cX12_lasts 90 = .ok (.iinc 6 1, 3) := by decide +kernel
theorem dX12_lasts_93 : decode cX12_lasts 93 = .ok (.goto (-29), 3) := by decide +kernel
theorem dX12_lasts_96 : decode cX12_lasts 96 = .ok (.aload_n 0, 1) := by decide +kernel
theorem dX12_lasts_97 : decode cX12_lasts 97 = .ok (.iload_n 2, 1) := by decide +kernel
theorem dX12_lasts_98 : decode cX12_lasts 98 = .ok (.invokevirtual 409, 3) := by decide +kernel
theorem dX12_lasts_101 : decode cX12_lasts 101 = .ok (.istore 6, 2) := by decide +kernel
theorem dX12_lasts_103 : decode cX12_lasts 103 = .ok (.iconst 0, 1) := by decide +kernel
theorem dX12_lasts_104 : decode cX12_lasts 104 = .ok (.istore 7, 2) := by decide +kernel
theorem dX12_lasts_106 : decode cX12_lasts 106 = .ok (.iconst 0, 1) := by decide +kernel
theorem dX12_lasts_107 : decode cX12_lasts 107 = .ok (.istore 8, 2) := by decide +kernel
theorem dX12_lasts_109 : decode cX12_lasts 109 = .ok (.iload 8, 2) := by decide +kernel
theorem dX12_lasts_111 : decode cX12_lasts 111 = .ok (.iload 4, 2) := by decide +kernel
theorem dX12_lasts_113 : decode cX12_lasts 113 = .ok (.if_icmp .ge 105, 3) := by decide +kernel
theorem dX12_lasts_116 : decode cX12_lasts 116 = .ok (.iload_n 1, 1) := by decide +kernel
theorem dX12_lasts_117 : decode cX12_lasts 117 = .ok (.i2l, 1) := by decide +kernel
theorem dX12_lasts_118 : decode cX12_lasts 118 = .ok (.lstore 9, 2) := by decide +kernel
theorem dX12_lasts_120 : decode cX12_lasts 120 = .ok (.iconst 1, 1) := by decide +kernel
theorem dX12_lasts_121 : decode cX12_lasts 121 = .ok (.istore 11, 2) := by decide +kernel
theorem dX12_lasts_123 : decode cX12_lasts 123 = .ok (.iconst 0, 1) := by decide +kernel
theorem dX12_lasts_124 : decode cX12_lasts 124 = .ok (.istore 12, 2) := by decide +kernel
theorem dX12_lasts_126 : decode cX12_lasts 126 = .ok (.iload 12, 2) := by decide +kernel
theorem dX12_lasts_128 : decode cX12_lasts 128 = .ok (.iload_n 3, 1) := by decide +kernel
theorem dX12_lasts_129 : decode cX12_lasts 129 = .ok (.if_icmp .ge 68, 3) := by decide +kernel
theorem dX12_lasts_132 : decode cX12_lasts 132 = .ok (.aload_n 0, 1) := by decide +kernel
theorem dX12_lasts_133 : decode cX12_lasts 133 = .ok (.aload_n 0, 1) := by decide +kernel
theorem dX12_lasts_134 : decode cX12_lasts 134 = .ok (.getfield 166, 3) := by decide +kernel
theorem dX12_lasts_137 : decode cX12_lasts 137 = .ok (.ldc_w 420, 3) := by decide +kernel
theorem dX12_lasts_140 : decode cX12_lasts 140 = .ok (.imul, 1) := by decide +kernel
theorem dX12_lasts_141 : decode cX12_lasts 141 = .ok (.sipush 12345, 3) := by decide +kernel
theorem dX12_lasts_144 : decode cX12_lasts 144 = .ok (.iadd, 1) := by decide +kernel
theorem dX12_lasts_145 : decode cX12_lasts 145 = .ok (.putfield 166, 3) := by decide +kernel
theorem dX12_lasts_148 : decode cX12_lasts 148 = .ok (.lload 9, 2) := by decide +kernel
theorem dX12_lasts_150 : decode cX12_lasts 150 = .ok (.iload 6, 2) := by decide +kernel
theorem dX12_lasts_152 : decode cX12_lasts 152 = .ok (.aload_n 0, 1) := by decide +kernel
theorem dX12_lasts_153 : decode cX12_lasts 153 = .ok (.getfield 194, 3) := by decide +kernel
theorem dX12_lasts_156 : decode cX12_lasts 156 = .ok (.aload_n 0, 1) := by decide +kernel
theorem dX12_lasts_157 : decode cX12_lasts 157 = .ok (.getfield 166, 3) := by decide +kernel
theorem dX12_lasts_160 : decode cX12_lasts 160 = .ok (.bipush 8, 2) := by decide +kernel
theorem dX12_lasts_162 : decode cX12_lasts 162 = .ok (.iushr, 1) := by decide +kernel
theorem dX12_lasts_163 : decode cX12_lasts 163 = .ok (.iload 5, 2) := by decide +kernel
theorem dX12_lasts_165 : decode cX12_lasts 165 = .ok (.irem, 1) := by decide +kernel
theorem dX12_lasts_166 : decode cX12_lasts 166 = .ok (.iaload, 1) := by decide +kernel
theorem dX12_lasts_167 : decode cX12_lasts 167 = .ok (.isub, 1) := by decide +kernel
theorem dX12_lasts_168 : decode cX12_lasts 168 = .ok (.i2l, 1) := by decide +kernel
theorem dX12_lasts_169 : decode cX12_lasts 169 = .ok (.ladd, 1) := by decide +kernel
theorem dX12_lasts_170 : decode cX12_lasts 170 = .ok (.lstore 9, 2) := by decide +kernel
theorem dX12_lasts_172 : decode cX12_lasts 172 = .ok (.iload 11, 2) := by decide +kernel
theorem dX12_lasts_174 : decode cX12_lasts 174 = .ok (.ifCond .eq 14, 3) := by decide +kernel
theorem dX12_lasts_177 : decode cX12_lasts 177 = .ok (.lload 9, 2) := by decide +kernel
theorem dX12_lasts_179 : decode cX12_lasts 179 = .ok (.lconst 0, 1) := by decide +kernel
theorem dX12_lasts_180 : decode cX12_lasts 180 = .ok (.lcmp, 1) := by decide +kernel
theorem dX12_lasts_181 : decode cX12_lasts 181 = .ok (.ifCond .lt 7, 3) := by decide +kernel
theorem dX12_lasts_184 : decode cX12_lasts 184 = .ok (.iconst 1, 1) := by decide +kernel
theorem dX12_lasts_185 : decode cX12_lasts 185 = .ok (.goto 4, 3) := by decide +kernel
theorem dX12_lasts_188 : decode cX12_lasts 188 = .ok (.iconst 0, 1) := by decide +kernel
theorem dX12_lasts_189 : decode cX12_lasts 189 = .ok (.istore 11, 2) := by decide +kernel
theorem dX12_lasts_191 : decode cX12_lasts 191 = .ok (.iinc 12 1, 3) := by decide +kernel
theorem dX12_lasts_194 : decode cX12_lasts 194 = .ok (.goto (-68), 3) := by decide +kernel
theorem dX12_lasts_197 : decode cX12_lasts 197 = .ok (.iload 7, 2) := by decide +kernel
theorem dX12_lasts_199 : decode cX12_lasts 199 = .ok (.iload 11, 2) := by decide +kernel
theorem dX12_lasts_201 : decode cX12_lasts 201 = .ok (.ifCond .eq 7, 3) := by decide +kernel
theorem dX12_lasts_204 : decode cX12_lasts 204 = .ok (.iconst 1, 1) := by decide +kernel
theorem dX12_lasts_205 : decode cX12_lasts 205 = .ok (.goto 4, 3) := by decide +kernel
theorem dX12_lasts_208 : decode cX12_lasts 208 = .ok (.iconst 0, 1) := by decide +kernel
theorem dX12_lasts_209 : decode cX12_lasts 209 = .ok (.iadd, 1) := by decide +kernel
theorem dX12_lasts_210 : decode cX12_lasts 210 = .ok (.istore 7, 2) := by decide +kernel
theorem dX12_lasts_212 : decode cX12_lasts 212 = .ok (.iinc 8 1, 3) := by decide +kernel
theorem dX12_lasts_215 : decode cX12_lasts 215 = .ok (.goto (-106), 3) := by decide +kernel
theorem dX12_lasts_218 : decode cX12_lasts 218 = .ok (.iload 7, 2) := by decide +kernel
theorem dX12_lasts_220 : decode cX12_lasts 220 = .ok (.ireturn, 1) := by decide +kernel
abbrev M_X12_lasts : MI := (RX12, cX12_lasts, 13, (some .int), ({ frames := 10, cells := 0, slots := 0, locals := 255 } : Room), 0, 0, false)
def f_X12_lasts_b189 (N : Nat) (K109 : AH → Nat → Int32 → Int32 → Int32 → Int32 → Int32 → Int32 → Int32 → Option (Int32 × AH)) (K126 : AH → Nat → Int32 → Int32 → Int32 → Int32 → Int32 → Int32 → Int32 → Int64 → Int32 → Int32 → Option (Int32 × AH)) (h : AH) (x0 : Nat) (x1 : Int32) (x3 : Int32) (x4 : Int32) (x5 : Int32) (x6 : Int32) (x7 : Int32) (x8 : Int32) (x9 : Int64) (x12 : Int32) (s10 : Int32) : Option (Int32 × AH) := K126 h x0 x1 x3 x4 x5 x6 x7 x8 x9 s10 (x12 + 1)
def f_X12_lasts_b188 (N : Nat) (K109 : AH → Nat → Int32 → Int32 → Int32 → Int32 → Int32 → Int32 → Int32 → Option (Int32 × AH)) (K126 : AH → Nat → Int32 → Int32 → Int32 → Int32 → Int32 → Int32 → Int32 → Int64 → Int32 → Int32 → Option (Int32 × AH)) (h : AH) (x0 : Nat) (x1 : Int32) (x3 : Int32) (x4 : Int32) (x5 : Int32) (x6 : Int32) (x7 : Int32) (x8 : Int32) (x9 : Int64) (x12 : Int32) : Option (Int32 × AH) := f_X12_lasts_b189 N K109 K126 h x0 x1 x3 x4 x5 x6 x7 x8 x9 x12 0
def f_X12_lasts_b209 (N : Nat) (K109 : AH → Nat → Int32 → Int32 → Int32 → Int32 → Int32 → Int32 → Int32 → Option (Int32 × AH)) (h : AH) (x0 : Nat) (x1 : Int32) (x3 : Int32) (x4 : Int32) (x5 : Int32) (x6 : Int32) (x8 : Int32) (s7 : Int32) (s8 : Int32) : Option (Int32 × AH) := K109 h x0 x1 x3 x4 x5 x6 (s8 + s7) (x8 + 1)
def f_X12_lasts_b126_body (N : Nat) (K109 : AH → Nat → Int32 → Int32 → Int32 → Int32 → Int32 → Int32 → Int32 → Option (Int32 × AH)) (K126 : AH → Nat → Int32 → Int32 → Int32 → Int32 → Int32 → Int32 → Int32 → Int64 → Int32 → Int32 → Option (Int32 × AH)) (h : AH) (x0 : Nat) (x1 : Int32) (x3 : Int32) (x4 : Int32) (x5 : Int32) (x6 : Int32) (x7 : Int32) (x8 : Int32) (x9 : Int64) (x11 : Int32) (x12 : Int32) : Option (Int32 × AH) := (if x3 ≤ x12 then (if x11 = 0 then f_X12_lasts_b209 N K109 h x0 x1 x3 x4 x5 x6 x8 0 x7 else f_X12_lasts_b209 N K109 h x0 x1 x3 x4 x5 x6 x8 1 x7) else (xgi h x0 13 61).bind fun v21 => (xpi h x0 13 61 ((v21 * 1103515245) + 12345)).bind fun h22 => (xgr h22 x0 13 75).bind fun v23 => (xgi h22 x0 13 61).bind fun v24 => (if x5 = 0 then none else (xia h22 v23 ((((v24 : Int32).toUInt32 >>> ((8 : Int32).toUInt32 &&& Int32.toUInt32 31)).toInt32) - (((v24 : Int32).toUInt32 >>> ((8 : Int32).toUInt32 &&& Int32.toUInt32 31)).toInt32) / x5 * x5)).bind fun v26 => (if x11 = 0 then f_X12_lasts_b188 N K109 K126 h22 x0 x1 x3 x4 x5 x6 x7 x8 (x9 + ((x6 - v26) : Int32).toInt64) x12 else (if (lg_cmp (x9 + ((x6 - v26) : Int32).toInt64) 0) < 0 then f_X12_lasts_b188 N K109 K126 h22 x0 x1 x3 x4 x5 x6 x7 x8 (x9 + ((x6 - v26) : Int32).toInt64) x12 else f_X12_lasts_b189 N K109 K126 h22 x0 x1 x3 x4 x5 x6 x7 x8 (x9 + ((x6 - v26) : Int32).toInt64) x12 1))))
def f_X12_lasts_b126 (N : Nat) (K109 : AH → Nat → Int32 → Int32 → Int32 → Int32 → Int32 → Int32 → Int32 → Option (Int32 × AH)) : Nat → AH → Nat → Int32 → Int32 → Int32 → Int32 → Int32 → Int32 → Int32 → Int64 → Int32 → Int32 → Option (Int32 × AH)
  | 0, _, _, _, _, _, _, _, _, _, _, _, _ => none
  | n + 1, h, x0, x1, x3, x4, x5, x6, x7, x8, x9, x11, x12 => f_X12_lasts_b126_body N K109 (f_X12_lasts_b126 N K109 n) h x0 x1 x3 x4 x5 x6 x7 x8 x9 x11 x12
def f_X12_lasts_b109_body (N : Nat) (K109 : AH → Nat → Int32 → Int32 → Int32 → Int32 → Int32 → Int32 → Int32 → Option (Int32 × AH)) (h : AH) (x0 : Nat) (x1 : Int32) (x3 : Int32) (x4 : Int32) (x5 : Int32) (x6 : Int32) (x7 : Int32) (x8 : Int32) : Option (Int32 × AH) := (if x4 ≤ x8 then some (x7, h) else f_X12_lasts_b126 N K109 N h x0 x1 x3 x4 x5 x6 x7 x8 (x1 : Int32).toInt64 1 0)
def f_X12_lasts_b109 (N : Nat) : Nat → AH → Nat → Int32 → Int32 → Int32 → Int32 → Int32 → Int32 → Int32 → Option (Int32 × AH)
  | 0, _, _, _, _, _, _, _, _, _ => none
  | n + 1, h, x0, x1, x3, x4, x5, x6, x7, x8 => f_X12_lasts_b109_body N  (f_X12_lasts_b109 N  n) h x0 x1 x3 x4 x5 x6 x7 x8
def f_X12_lasts_b64_body (N : Nat) (K64 : AH → Nat → Int32 → Int32 → Int32 → Int32 → Int32 → Int32 → Option (Int32 × AH)) (h : AH) (x0 : Nat) (x1 : Int32) (x2 : Int32) (x3 : Int32) (x4 : Int32) (x5 : Int32) (x6 : Int32) : Option (Int32 × AH) := (if x5 ≤ x6 then (f_X12_incomeOf h N x0 x2).bind fun v12 => f_X12_lasts_b109 N N h x0 x1 x3 x4 x5 v12 0 0 else (xgr h x0 13 75).bind fun v13 => (xgr h x0 13 74).bind fun v14 => (xia h v14 x6).bind fun v15 => (f_X12_totalOf h N x0 v15 x2).bind fun v16 => (xis h v13 x6 v16).bind fun h17 => K64 h17 x0 x1 x2 x3 x4 x5 (x6 + 1))
def f_X12_lasts_b64 (N : Nat) : Nat → AH → Nat → Int32 → Int32 → Int32 → Int32 → Int32 → Int32 → Option (Int32 × AH)
  | 0, _, _, _, _, _, _, _, _ => none
  | n + 1, h, x0, x1, x2, x3, x4, x5, x6 => f_X12_lasts_b64_body N  (f_X12_lasts_b64 N  n) h x0 x1 x2 x3 x4 x5 x6
def f_X12_lasts (h0 : AH) (N : Nat) (p0 : Nat) (p1 : Int32) (p2 : Int32) (p3 : Int32) (p4 : Int32) : Option (Int32 × AH) := if kd h0 p0 = 13 + 1 then (f_X12_isSeason h0 p2).bind fun v1 => (if v1 = 0 then some ((-1), h0) else (if p1 < 0 then some ((-2), h0) else (if 0 < (lg_cmp (p1 : Int32).toInt64 2000000000) then some ((-2), h0) else (f_X12_in h0 p3 1 40).bind fun v5 => (if v5 = 0 then some ((-2), h0) else (f_X12_in h0 p4 1 40).bind fun v7 => (if v7 = 0 then some ((-2), h0) else (f_X12_years h0 N p0 p2).bind fun q9 => (if q9.1 = 0 then some ((-3), q9.2) else f_X12_lasts_b64 N N q9.2 p0 p1 p2 p3 p4 q9.1 0)))))) else none
theorem g_X12_lasts {h0 : AH} {N : Nat} {p0 : Nat} {p1 : Int32} {p2 : Int32} {p3 : Int32} {p4 : Int32} {x : (Int32 × AH)} (e : f_X12_lasts h0 N p0 p1 p2 p3 p4 = some x) : kd h0 p0 = 13 + 1 := by
  unfold f_X12_lasts at e
  by_cases hk : kd h0 p0 = 13 + 1
  · exact hk
  · rw [if_neg hk] at e
    cases e
theorem km_X12_lasts : KM yX12_lasts M_X12_lasts 4 := ⟨in_tb 1771 (by decide +kernel) rfl, in_tb 9 (by decide +kernel) rfl, by decide +kernel, rfl, rfl⟩
theorem hm_X12_lasts : M_X12_lasts.2.2.2.2.2.1 = 0 ∧ M_X12_lasts.2.2.2.2.2.2.1 = 0 := ⟨rfl, rfl⟩
section
variable {l : Launch} {g : GG}
set_option maxRecDepth 100000 in
set_option maxHeartbeats 4000000 in
theorem t_X12_lasts_b189 (h0 : AH) (N : Nat) (K109 : AH → Nat → Int32 → Int32 → Int32 → Int32 → Int32 → Int32 → Int32 → Option (Int32 × AH)) (hK109 : ∀ (z : AH) (z0 : Nat) (z1 : Int32) (z2 : Int32) (z3 : Int32) (z4 : Int32) (z5 : Int32) (z6 : Int32) (z7 : Int32), AO l g M_X12_lasts false h0 109 [(0, .ref z0), (1, .int z1), (3, .int z2), (4, .int z3), (5, .int z4), (6, .int z5), (7, .int z6), (8, .int z7)] [] z 0 0 rSi (K109 z z0 z1 z2 z3 z4 z5 z6 z7)) (K126 : AH → Nat → Int32 → Int32 → Int32 → Int32 → Int32 → Int32 → Int32 → Int64 → Int32 → Int32 → Option (Int32 × AH)) (hK126 : ∀ (z : AH) (z0 : Nat) (z1 : Int32) (z2 : Int32) (z3 : Int32) (z4 : Int32) (z5 : Int32) (z6 : Int32) (z7 : Int32) (z8 : Int64) (z9 : Int32) (z10 : Int32), AO l g M_X12_lasts false h0 126 [(0, .ref z0), (1, .int z1), (3, .int z2), (4, .int z3), (5, .int z4), (6, .int z5), (7, .int z6), (8, .int z7), (9, .long z8), (11, .int z9), (12, .int z10)] [] z 0 0 rSi (K126 z z0 z1 z2 z3 z4 z5 z6 z7 z8 z9 z10)) (h : AH) (x0 : Nat) (x1 : Int32) (x3 : Int32) (x4 : Int32) (x5 : Int32) (x6 : Int32) (x7 : Int32) (x8 : Int32) (x9 : Int64) (x12 : Int32) (s10 : Int32) : AO l g M_X12_lasts false h0 189 [(0, .ref x0), (1, .int x1), (3, .int x3), (4, .int x4), (5, .int x5), (6, .int x6), (7, .int x7), (8, .int x8), (9, .long x9), (12, .int x12)] [.int s10] h 0 0 rSi (f_X12_lasts_b189 N K109 K126 h x0 x1 x3 x4 x5 x6 x7 x8 x9 x12 s10) := by
  unfold f_X12_lasts_b189
  refine a_istore (lc2 := [(11, .int s10), (0, .ref x0), (1, .int x1), (3, .int x3), (4, .int x4), (5, .int x5), (6, .int x6), (7, .int x7), (8, .int x8), (9, .long x9), (12, .int x12)]) dX12_lasts_189 (by decide) rfl ?_
  refine a_iinc (q := 10) (v := (x12 + 1)) (lc2 := [(12, .int (x12 + 1)), (11, .int s10), (0, .ref x0), (1, .int x1), (3, .int x3), (4, .int x4), (5, .int x5), (6, .int x6), (7, .int x7), (8, .int x8), (9, .long x9)]) dX12_lasts_191 rfl rfl (by decide) rfl ?_
  refine a_goto 126 dX12_lasts_194 (by decide) ?_
  refine a_pick (lc2 := [(0, .ref x0), (1, .int x1), (3, .int x3), (4, .int x4), (5, .int x5), (6, .int x6), (7, .int x7), (8, .int x8), (9, .long x9), (11, .int s10), (12, .int (x12 + 1))]) [2, 3, 4, 5, 6, 7, 8, 9, 10, 1, 0] rfl ?_
  exact hK126 h x0 x1 x3 x4 x5 x6 x7 x8 x9 s10 (x12 + 1)
set_option maxRecDepth 100000 in
set_option maxHeartbeats 4000000 in
theorem t_X12_lasts_b188 (h0 : AH) (N : Nat) (K109 : AH → Nat → Int32 → Int32 → Int32 → Int32 → Int32 → Int32 → Int32 → Option (Int32 × AH)) (hK109 : ∀ (z : AH) (z0 : Nat) (z1 : Int32) (z2 : Int32) (z3 : Int32) (z4 : Int32) (z5 : Int32) (z6 : Int32) (z7 : Int32), AO l g M_X12_lasts false h0 109 [(0, .ref z0), (1, .int z1), (3, .int z2), (4, .int z3), (5, .int z4), (6, .int z5), (7, .int z6), (8, .int z7)] [] z 0 0 rSi (K109 z z0 z1 z2 z3 z4 z5 z6 z7)) (K126 : AH → Nat → Int32 → Int32 → Int32 → Int32 → Int32 → Int32 → Int32 → Int64 → Int32 → Int32 → Option (Int32 × AH)) (hK126 : ∀ (z : AH) (z0 : Nat) (z1 : Int32) (z2 : Int32) (z3 : Int32) (z4 : Int32) (z5 : Int32) (z6 : Int32) (z7 : Int32) (z8 : Int64) (z9 : Int32) (z10 : Int32), AO l g M_X12_lasts false h0 126 [(0, .ref z0), (1, .int z1), (3, .int z2), (4, .int z3), (5, .int z4), (6, .int z5), (7, .int z6), (8, .int z7), (9, .long z8), (11, .int z9), (12, .int z10)] [] z 0 0 rSi (K126 z z0 z1 z2 z3 z4 z5 z6 z7 z8 z9 z10)) (h : AH) (x0 : Nat) (x1 : Int32) (x3 : Int32) (x4 : Int32) (x5 : Int32) (x6 : Int32) (x7 : Int32) (x8 : Int32) (x9 : Int64) (x12 : Int32) : AO l g M_X12_lasts false h0 188 [(0, .ref x0), (1, .int x1), (3, .int x3), (4, .int x4), (5, .int x5), (6, .int x6), (7, .int x7), (8, .int x8), (9, .long x9), (12, .int x12)] [] h 0 0 rSi (f_X12_lasts_b188 N K109 K126 h x0 x1 x3 x4 x5 x6 x7 x8 x9 x12) := by
  unfold f_X12_lasts_b188
  refine a_iconst (v := 0) dX12_lasts_188 (by decide) ?_
  exact t_X12_lasts_b189 h0 N K109 hK109 K126 hK126 h x0 x1 x3 x4 x5 x6 x7 x8 x9 x12 0
set_option maxRecDepth 100000 in
set_option maxHeartbeats 4000000 in
theorem t_X12_lasts_b209 (h0 : AH) (N : Nat) (K109 : AH → Nat → Int32 → Int32 → Int32 → Int32 → Int32 → Int32 → Int32 → Option (Int32 × AH)) (hK109 : ∀ (z : AH) (z0 : Nat) (z1 : Int32) (z2 : Int32) (z3 : Int32) (z4 : Int32) (z5 : Int32) (z6 : Int32) (z7 : Int32), AO l g M_X12_lasts false h0 109 [(0, .ref z0), (1, .int z1), (3, .int z2), (4, .int z3), (5, .int z4), (6, .int z5), (7, .int z6), (8, .int z7)] [] z 0 0 rSi (K109 z z0 z1 z2 z3 z4 z5 z6 z7)) (h : AH) (x0 : Nat) (x1 : Int32) (x3 : Int32) (x4 : Int32) (x5 : Int32) (x6 : Int32) (x8 : Int32) (s7 : Int32) (s8 : Int32) : AO l g M_X12_lasts false h0 209 [(0, .ref x0), (1, .int x1), (3, .int x3), (4, .int x4), (5, .int x5), (6, .int x6), (8, .int x8)] [.int s7, .int s8] h 0 0 rSi (f_X12_lasts_b209 N K109 h x0 x1 x3 x4 x5 x6 x8 s7 s8) := by
  unfold f_X12_lasts_b209
  refine a_iadd dX12_lasts_209 ?_
  refine a_istore (lc2 := [(7, .int (s8 + s7)), (0, .ref x0), (1, .int x1), (3, .int x3), (4, .int x4), (5, .int x5), (6, .int x6), (8, .int x8)]) dX12_lasts_210 (by decide) rfl ?_
  refine a_iinc (q := 7) (v := (x8 + 1)) (lc2 := [(8, .int (x8 + 1)), (7, .int (s8 + s7)), (0, .ref x0), (1, .int x1), (3, .int x3), (4, .int x4), (5, .int x5), (6, .int x6)]) dX12_lasts_212 rfl rfl (by decide) rfl ?_
  refine a_goto 109 dX12_lasts_215 (by decide) ?_
  refine a_pick (lc2 := [(0, .ref x0), (1, .int x1), (3, .int x3), (4, .int x4), (5, .int x5), (6, .int x6), (7, .int (s8 + s7)), (8, .int (x8 + 1))]) [2, 3, 4, 5, 6, 7, 1, 0] rfl ?_
  exact hK109 h x0 x1 x3 x4 x5 x6 (s8 + s7) (x8 + 1)
set_option maxRecDepth 100000 in
set_option maxHeartbeats 4000000 in
theorem t_X12_lasts_b126_body (h0 : AH) (N : Nat) (K109 : AH → Nat → Int32 → Int32 → Int32 → Int32 → Int32 → Int32 → Int32 → Option (Int32 × AH)) (hK109 : ∀ (z : AH) (z0 : Nat) (z1 : Int32) (z2 : Int32) (z3 : Int32) (z4 : Int32) (z5 : Int32) (z6 : Int32) (z7 : Int32), AO l g M_X12_lasts false h0 109 [(0, .ref z0), (1, .int z1), (3, .int z2), (4, .int z3), (5, .int z4), (6, .int z5), (7, .int z6), (8, .int z7)] [] z 0 0 rSi (K109 z z0 z1 z2 z3 z4 z5 z6 z7)) (K126 : AH → Nat → Int32 → Int32 → Int32 → Int32 → Int32 → Int32 → Int32 → Int64 → Int32 → Int32 → Option (Int32 × AH)) (hK126 : ∀ (z : AH) (z0 : Nat) (z1 : Int32) (z2 : Int32) (z3 : Int32) (z4 : Int32) (z5 : Int32) (z6 : Int32) (z7 : Int32) (z8 : Int64) (z9 : Int32) (z10 : Int32), AO l g M_X12_lasts false h0 126 [(0, .ref z0), (1, .int z1), (3, .int z2), (4, .int z3), (5, .int z4), (6, .int z5), (7, .int z6), (8, .int z7), (9, .long z8), (11, .int z9), (12, .int z10)] [] z 0 0 rSi (K126 z z0 z1 z2 z3 z4 z5 z6 z7 z8 z9 z10)) (h : AH) (x0 : Nat) (x1 : Int32) (x3 : Int32) (x4 : Int32) (x5 : Int32) (x6 : Int32) (x7 : Int32) (x8 : Int32) (x9 : Int64) (x11 : Int32) (x12 : Int32) : AO l g M_X12_lasts false h0 126 [(0, .ref x0), (1, .int x1), (3, .int x3), (4, .int x4), (5, .int x5), (6, .int x6), (7, .int x7), (8, .int x8), (9, .long x9), (11, .int x11), (12, .int x12)] [] h 0 0 rSi (f_X12_lasts_b126_body N K109 K126 h x0 x1 x3 x4 x5 x6 x7 x8 x9 x11 x12) := by
  unfold f_X12_lasts_b126_body
  refine a_iload dX12_lasts_126 10 rfl ?_
  refine a_iload_n dX12_lasts_128 rfl 2 rfl ?_
  refine a_icmp_ge 197 dX12_lasts_129 (by decide) (fun c19 => ?_) (fun c19 => ?_)
  · refine a_iload dX12_lasts_197 6 rfl ?_
    refine a_iload dX12_lasts_199 9 rfl ?_
    refine a_if_eq 208 dX12_lasts_201 (by decide) (fun c20 => ?_) (fun c20 => ?_)
    · refine a_iconst (v := 0) dX12_lasts_208 (by decide) ?_
      refine a_pick (lc2 := [(0, .ref x0), (1, .int x1), (3, .int x3), (4, .int x4), (5, .int x5), (6, .int x6), (8, .int x8)]) [0, 1, 2, 3, 4, 5, 7] rfl ?_
      exact t_X12_lasts_b209 h0 N K109 hK109 h x0 x1 x3 x4 x5 x6 x8 0 x7
    · refine a_iconst (v := 1) dX12_lasts_204 (by decide) ?_
      refine a_goto 209 dX12_lasts_205 (by decide) ?_
      refine a_pick (lc2 := [(0, .ref x0), (1, .int x1), (3, .int x3), (4, .int x4), (5, .int x5), (6, .int x6), (8, .int x8)]) [0, 1, 2, 3, 4, 5, 7] rfl ?_
      exact t_X12_lasts_b209 h0 N K109 hK109 h x0 x1 x3 x4 x5 x6 x8 1 x7
  · refine a_aload_n dX12_lasts_132 rfl 0 rfl ?_
    refine a_aload_n dX12_lasts_133 rfl 0 rfl ?_
    refine a_geti kc13 61 dX12_lasts_134 (by decide) rfl w_fieldLink_RainCoverModel_166 (fun v21 => ?_)
    refine a_ldcw (v := 1103515245) dX12_lasts_137 w_constant_RainCoverModel_420 ?_
    refine a_imul dX12_lasts_140 ?_
    refine a_sipush (v := 12345) dX12_lasts_141 (by decide) ?_
    refine a_iadd dX12_lasts_144 ?_
    refine a_puti kc13 61 dX12_lasts_145 (by decide) rfl w_fieldLink_RainCoverModel_166 rfl rfl (fun h22 => ?_)
    refine a_lload dX12_lasts_148 8 rfl ?_
    refine a_iload dX12_lasts_150 5 rfl ?_
    refine a_aload_n dX12_lasts_152 rfl 0 rfl ?_
    refine a_getr kc13 75 dX12_lasts_153 (by decide) rfl w_fieldLink_RainCoverModel_194 (fun v23 => ?_)
    refine a_aload_n dX12_lasts_156 rfl 0 rfl ?_
    refine a_geti kc13 61 dX12_lasts_157 (by decide) rfl w_fieldLink_RainCoverModel_166 (fun v24 => ?_)
    refine a_bipush (v := 8) dX12_lasts_160 (by decide) ?_
    refine a_iushr dX12_lasts_162 ?_
    refine a_iload dX12_lasts_163 4 rfl ?_
    refine a_irem dX12_lasts_165 (fun c25 => ?_)
    refine a_iald dX12_lasts_166 (fun v26 => ?_)
    refine a_isub dX12_lasts_167 ?_
    refine a_i2l dX12_lasts_168 ?_
    refine a_ladd dX12_lasts_169 ?_
    refine a_lstore (lc2 := [(9, .long (x9 + ((x6 - v26) : Int32).toInt64)), (0, .ref x0), (1, .int x1), (3, .int x3), (4, .int x4), (5, .int x5), (6, .int x6), (7, .int x7), (8, .int x8), (11, .int x11), (12, .int x12)]) dX12_lasts_170 (by decide) rfl ?_
    refine a_iload dX12_lasts_172 9 rfl ?_
    refine a_if_eq 188 dX12_lasts_174 (by decide) (fun c27 => ?_) (fun c27 => ?_)
    · refine a_pick (lc2 := [(0, .ref x0), (1, .int x1), (3, .int x3), (4, .int x4), (5, .int x5), (6, .int x6), (7, .int x7), (8, .int x8), (9, .long (x9 + ((x6 - v26) : Int32).toInt64)), (12, .int x12)]) [1, 2, 3, 4, 5, 6, 7, 8, 0, 10] rfl ?_
      exact t_X12_lasts_b188 h0 N K109 hK109 K126 hK126 h22 x0 x1 x3 x4 x5 x6 x7 x8 (x9 + ((x6 - v26) : Int32).toInt64) x12
    · refine a_lload dX12_lasts_177 0 rfl ?_
      refine a_lconst (v := 0) dX12_lasts_179 (by decide) ?_
      refine a_lcmp dX12_lasts_180 ?_
      refine a_if_lt 188 dX12_lasts_181 (by decide) (fun c28 => ?_) (fun c28 => ?_)
      · refine a_pick (lc2 := [(0, .ref x0), (1, .int x1), (3, .int x3), (4, .int x4), (5, .int x5), (6, .int x6), (7, .int x7), (8, .int x8), (9, .long (x9 + ((x6 - v26) : Int32).toInt64)), (12, .int x12)]) [1, 2, 3, 4, 5, 6, 7, 8, 0, 10] rfl ?_
        exact t_X12_lasts_b188 h0 N K109 hK109 K126 hK126 h22 x0 x1 x3 x4 x5 x6 x7 x8 (x9 + ((x6 - v26) : Int32).toInt64) x12
      · refine a_iconst (v := 1) dX12_lasts_184 (by decide) ?_
        refine a_goto 189 dX12_lasts_185 (by decide) ?_
        refine a_pick (lc2 := [(0, .ref x0), (1, .int x1), (3, .int x3), (4, .int x4), (5, .int x5), (6, .int x6), (7, .int x7), (8, .int x8), (9, .long (x9 + ((x6 - v26) : Int32).toInt64)), (12, .int x12)]) [1, 2, 3, 4, 5, 6, 7, 8, 0, 10] rfl ?_
        exact t_X12_lasts_b189 h0 N K109 hK109 K126 hK126 h22 x0 x1 x3 x4 x5 x6 x7 x8 (x9 + ((x6 - v26) : Int32).toInt64) x12 1
set_option maxRecDepth 100000 in
set_option maxHeartbeats 4000000 in
theorem t_X12_lasts_b126 (h0 : AH) (N : Nat) (K109 : AH → Nat → Int32 → Int32 → Int32 → Int32 → Int32 → Int32 → Int32 → Option (Int32 × AH)) (hK109 : ∀ (z : AH) (z0 : Nat) (z1 : Int32) (z2 : Int32) (z3 : Int32) (z4 : Int32) (z5 : Int32) (z6 : Int32) (z7 : Int32), AO l g M_X12_lasts false h0 109 [(0, .ref z0), (1, .int z1), (3, .int z2), (4, .int z3), (5, .int z4), (6, .int z5), (7, .int z6), (8, .int z7)] [] z 0 0 rSi (K109 z z0 z1 z2 z3 z4 z5 z6 z7)) : ∀ (n : Nat) (h : AH) (x0 : Nat) (x1 : Int32) (x3 : Int32) (x4 : Int32) (x5 : Int32) (x6 : Int32) (x7 : Int32) (x8 : Int32) (x9 : Int64) (x11 : Int32) (x12 : Int32) , AO l g M_X12_lasts false h0 126 [(0, .ref x0), (1, .int x1), (3, .int x3), (4, .int x4), (5, .int x5), (6, .int x6), (7, .int x7), (8, .int x8), (9, .long x9), (11, .int x11), (12, .int x12)] [] h 0 0 rSi (f_X12_lasts_b126 N K109 n h x0 x1 x3 x4 x5 x6 x7 x8 x9 x11 x12) := by
  intro n
  induction n with
  | zero => intro h x0 x1 x3 x4 x5 x6 x7 x8 x9 x11 x12; exact a_eq rfl a_none
  | succ n ih => intro h x0 x1 x3 x4 x5 x6 x7 x8 x9 x11 x12; exact a_eq rfl (t_X12_lasts_b126_body h0 N (K109) (hK109) (f_X12_lasts_b126 N K109 n) ih h x0 x1 x3 x4 x5 x6 x7 x8 x9 x11 x12)
set_option maxRecDepth 100000 in
set_option maxHeartbeats 4000000 in
theorem t_X12_lasts_b109_body (h0 : AH) (N : Nat) (K109 : AH → Nat → Int32 → Int32 → Int32 → Int32 → Int32 → Int32 → Int32 → Option (Int32 × AH)) (hK109 : ∀ (z : AH) (z0 : Nat) (z1 : Int32) (z2 : Int32) (z3 : Int32) (z4 : Int32) (z5 : Int32) (z6 : Int32) (z7 : Int32), AO l g M_X12_lasts false h0 109 [(0, .ref z0), (1, .int z1), (3, .int z2), (4, .int z3), (5, .int z4), (6, .int z5), (7, .int z6), (8, .int z7)] [] z 0 0 rSi (K109 z z0 z1 z2 z3 z4 z5 z6 z7)) (h : AH) (x0 : Nat) (x1 : Int32) (x3 : Int32) (x4 : Int32) (x5 : Int32) (x6 : Int32) (x7 : Int32) (x8 : Int32) : AO l g M_X12_lasts false h0 109 [(0, .ref x0), (1, .int x1), (3, .int x3), (4, .int x4), (5, .int x5), (6, .int x6), (7, .int x7), (8, .int x8)] [] h 0 0 rSi (f_X12_lasts_b109_body N K109 h x0 x1 x3 x4 x5 x6 x7 x8) := by
  unfold f_X12_lasts_b109_body
  refine a_iload dX12_lasts_109 7 rfl ?_
  refine a_iload dX12_lasts_111 3 rfl ?_
  refine a_icmp_ge 218 dX12_lasts_113 (by decide) (fun c18 => ?_) (fun c18 => ?_)
  · refine a_iload dX12_lasts_218 6 rfl ?_
    exact a_iret dX12_lasts_220 rfl rfl (by decide) (by decide)
  · refine a_iload_n dX12_lasts_116 rfl 1 rfl ?_
    refine a_i2l dX12_lasts_117 ?_
    refine a_lstore (lc2 := [(9, .long (x1 : Int32).toInt64), (0, .ref x0), (1, .int x1), (3, .int x3), (4, .int x4), (5, .int x5), (6, .int x6), (7, .int x7), (8, .int x8)]) dX12_lasts_118 (by decide) rfl ?_
    refine a_iconst (v := 1) dX12_lasts_120 (by decide) ?_
    refine a_istore (lc2 := [(11, .int 1), (9, .long (x1 : Int32).toInt64), (0, .ref x0), (1, .int x1), (3, .int x3), (4, .int x4), (5, .int x5), (6, .int x6), (7, .int x7), (8, .int x8)]) dX12_lasts_121 (by decide) rfl ?_
    refine a_iconst (v := 0) dX12_lasts_123 (by decide) ?_
    refine a_istore (lc2 := [(12, .int 0), (11, .int 1), (9, .long (x1 : Int32).toInt64), (0, .ref x0), (1, .int x1), (3, .int x3), (4, .int x4), (5, .int x5), (6, .int x6), (7, .int x7), (8, .int x8)]) dX12_lasts_124 (by decide) rfl ?_
    refine a_pick (lc2 := [(0, .ref x0), (1, .int x1), (3, .int x3), (4, .int x4), (5, .int x5), (6, .int x6), (7, .int x7), (8, .int x8), (9, .long (x1 : Int32).toInt64), (11, .int 1), (12, .int 0)]) [3, 4, 5, 6, 7, 8, 9, 10, 2, 1, 0] rfl ?_
    exact t_X12_lasts_b126 h0 N K109 hK109 N h x0 x1 x3 x4 x5 x6 x7 x8 (x1 : Int32).toInt64 1 0
set_option maxRecDepth 100000 in
set_option maxHeartbeats 4000000 in
theorem t_X12_lasts_b109 (h0 : AH) (N : Nat) : ∀ (n : Nat) (h : AH) (x0 : Nat) (x1 : Int32) (x3 : Int32) (x4 : Int32) (x5 : Int32) (x6 : Int32) (x7 : Int32) (x8 : Int32) , AO l g M_X12_lasts false h0 109 [(0, .ref x0), (1, .int x1), (3, .int x3), (4, .int x4), (5, .int x5), (6, .int x6), (7, .int x7), (8, .int x8)] [] h 0 0 rSi (f_X12_lasts_b109 N  n h x0 x1 x3 x4 x5 x6 x7 x8) := by
  intro n
  induction n with
  | zero => intro h x0 x1 x3 x4 x5 x6 x7 x8; exact a_eq rfl a_none
  | succ n ih => intro h x0 x1 x3 x4 x5 x6 x7 x8; exact a_eq rfl (t_X12_lasts_b109_body h0 N  (f_X12_lasts_b109 N  n) ih h x0 x1 x3 x4 x5 x6 x7 x8)
set_option maxRecDepth 100000 in
set_option maxHeartbeats 4000000 in
theorem t_X12_lasts_b64_body (h0 : AH) (N : Nat) (K64 : AH → Nat → Int32 → Int32 → Int32 → Int32 → Int32 → Int32 → Option (Int32 × AH)) (hK64 : ∀ (z : AH) (z0 : Nat) (z1 : Int32) (z2 : Int32) (z3 : Int32) (z4 : Int32) (z5 : Int32) (z6 : Int32), AO l g M_X12_lasts false h0 64 [(0, .ref z0), (1, .int z1), (2, .int z2), (3, .int z3), (4, .int z4), (5, .int z5), (6, .int z6)] [] z 0 0 rSi (K64 z z0 z1 z2 z3 z4 z5 z6)) (h : AH) (x0 : Nat) (x1 : Int32) (x2 : Int32) (x3 : Int32) (x4 : Int32) (x5 : Int32) (x6 : Int32) : AO l g M_X12_lasts false h0 64 [(0, .ref x0), (1, .int x1), (2, .int x2), (3, .int x3), (4, .int x4), (5, .int x5), (6, .int x6)] [] h 0 0 rSi (f_X12_lasts_b64_body N K64 h x0 x1 x2 x3 x4 x5 x6) := by
  unfold f_X12_lasts_b64_body
  refine a_iload dX12_lasts_64 6 rfl ?_
  refine a_iload dX12_lasts_66 5 rfl ?_
  refine a_icmp_ge 96 dX12_lasts_68 (by decide) (fun c11 => ?_) (fun c11 => ?_)
  · refine a_aload_n dX12_lasts_96 rfl 0 rfl ?_
    refine a_iload_n dX12_lasts_97 rfl 2 rfl ?_
    refine a_cV_Pi (r := x0) (ci := 13) (as := [.int x2]) (st := []) dX12_lasts_98 (c_X12_incomeOf l g h N x0 x2) rfl km_X12_incomeOf (hm_X12_incomeOf) rfl (by decide) rfl (fun _ ee => g_X12_incomeOf ee) w_methodLink_RainCoverModel_409 w_instanceMethod_RainCoverModel_incomeOf__I_I w_selects_RainCoverModel_RainCoverModel_incomeOf__I_I_RainCoverModel_incomeOf__I_I ⟨⟨by decide, by decide⟩, ⟨by decide, by decide⟩⟩ (Nat.le_of_ble_eq_true rfl) (fun v12 => ?_)
    refine a_istore (lc2 := [(6, .int v12), (0, .ref x0), (1, .int x1), (2, .int x2), (3, .int x3), (4, .int x4), (5, .int x5)]) dX12_lasts_101 (by decide) rfl ?_
    refine a_iconst (v := 0) dX12_lasts_103 (by decide) ?_
    refine a_istore (lc2 := [(7, .int 0), (6, .int v12), (0, .ref x0), (1, .int x1), (2, .int x2), (3, .int x3), (4, .int x4), (5, .int x5)]) dX12_lasts_104 (by decide) rfl ?_
    refine a_iconst (v := 0) dX12_lasts_106 (by decide) ?_
    refine a_istore (lc2 := [(8, .int 0), (7, .int 0), (6, .int v12), (0, .ref x0), (1, .int x1), (2, .int x2), (3, .int x3), (4, .int x4), (5, .int x5)]) dX12_lasts_107 (by decide) rfl ?_
    refine a_pick (lc2 := [(0, .ref x0), (1, .int x1), (3, .int x3), (4, .int x4), (5, .int x5), (6, .int v12), (7, .int 0), (8, .int 0)]) [3, 4, 6, 7, 8, 2, 1, 0] rfl ?_
    exact t_X12_lasts_b109 h0 N N h x0 x1 x3 x4 x5 v12 0 0
  · refine a_aload_n dX12_lasts_71 rfl 0 rfl ?_
    refine a_getr kc13 75 dX12_lasts_72 (by decide) rfl w_fieldLink_RainCoverModel_194 (fun v13 => ?_)
    refine a_iload dX12_lasts_75 6 rfl ?_
    refine a_aload_n dX12_lasts_77 rfl 0 rfl ?_
    refine a_aload_n dX12_lasts_78 rfl 0 rfl ?_
    refine a_getr kc13 74 dX12_lasts_79 (by decide) rfl w_fieldLink_RainCoverModel_191 (fun v14 => ?_)
    refine a_iload dX12_lasts_82 6 rfl ?_
    refine a_iald dX12_lasts_84 (fun v15 => ?_)
    refine a_iload_n dX12_lasts_85 rfl 2 rfl ?_
    refine a_cV_Pi (r := x0) (ci := 13) (as := [.int v15, .int x2]) (st := [.int x6, .ref v13]) dX12_lasts_86 (c_X12_totalOf l g h N x0 v15 x2) rfl km_X12_totalOf (hm_X12_totalOf) rfl (by decide) rfl (fun _ ee => g_X12_totalOf ee) w_methodLink_RainCoverModel_412 w_instanceMethod_RainCoverModel_totalOf__II_I w_selects_RainCoverModel_RainCoverModel_totalOf__II_I_RainCoverModel_totalOf__II_I ⟨⟨by decide, by decide⟩, ⟨by decide, by decide⟩⟩ (Nat.le_of_ble_eq_true rfl) (fun v16 => ?_)
    refine a_iast dX12_lasts_89 (fun h17 => ?_)
    refine a_iinc (q := 6) (v := (x6 + 1)) (lc2 := [(6, .int (x6 + 1)), (0, .ref x0), (1, .int x1), (2, .int x2), (3, .int x3), (4, .int x4), (5, .int x5)]) dX12_lasts_90 rfl rfl (by decide) rfl ?_
    refine a_goto 64 dX12_lasts_93 (by decide) ?_
    refine a_pick (lc2 := [(0, .ref x0), (1, .int x1), (2, .int x2), (3, .int x3), (4, .int x4), (5, .int x5), (6, .int (x6 + 1))]) [1, 2, 3, 4, 5, 6, 0] rfl ?_
    exact hK64 h17 x0 x1 x2 x3 x4 x5 (x6 + 1)
set_option maxRecDepth 100000 in
set_option maxHeartbeats 4000000 in
theorem t_X12_lasts_b64 (h0 : AH) (N : Nat) : ∀ (n : Nat) (h : AH) (x0 : Nat) (x1 : Int32) (x2 : Int32) (x3 : Int32) (x4 : Int32) (x5 : Int32) (x6 : Int32) , AO l g M_X12_lasts false h0 64 [(0, .ref x0), (1, .int x1), (2, .int x2), (3, .int x3), (4, .int x4), (5, .int x5), (6, .int x6)] [] h 0 0 rSi (f_X12_lasts_b64 N  n h x0 x1 x2 x3 x4 x5 x6) := by
  intro n
  induction n with
  | zero => intro h x0 x1 x2 x3 x4 x5 x6; exact a_eq rfl a_none
  | succ n ih => intro h x0 x1 x2 x3 x4 x5 x6; exact a_eq rfl (t_X12_lasts_b64_body h0 N  (f_X12_lasts_b64 N  n) ih h x0 x1 x2 x3 x4 x5 x6)
end
set_option maxRecDepth 100000 in
set_option maxHeartbeats 4000000 in
theorem c_X12_lasts (l : Launch) (g : GG) (h0 : AH) (N : Nat) (p0 : Nat) (p1 : Int32) (p2 : Int32) (p3 : Int32) (p4 : Int32) : CN l g yX12_lasts M_X12_lasts false [.ref p0, .int p1, .int p2, .int p3, .int p4] h0 rSi (f_X12_lasts h0 N p0 p1 p2 p3 p4) := by
  refine CN.of (by decide) rfl (fun hh => by first | rfl | cases hh) (Nat.le_of_ble_eq_true rfl) ?_
  unfold f_X12_lasts
  refine a_gd (fun hkd => ?_)
  refine a_iload_n dX12_lasts_0 rfl 2 rfl ?_
  refine a_cS_Pi (as := [.int p2]) (st := []) dX12_lasts_1 (c_X12_isSeason l g h0 p2) rfl km_X12_isSeason (hm_X12_isSeason) w_methodLink_RainCoverModel_221 w_static_RainCoverModel_isSeason__I_Z ⟨⟨by decide, by decide⟩, ⟨by decide, by decide⟩⟩ (Nat.le_of_ble_eq_true rfl) (fun v1 => ?_)
  refine a_if_ne 9 dX12_lasts_4 (by decide) (fun c2 => ?_) (fun c2 => ?_)
  · refine a_iconst (v := (-1)) dX12_lasts_7 (by decide) ?_
    exact a_iret dX12_lasts_8 rfl rfl (by decide) (by decide)
  · refine a_iload_n dX12_lasts_9 rfl 1 rfl ?_
    refine a_if_lt 43 dX12_lasts_10 (by decide) (fun c3 => ?_) (fun c3 => ?_)
    · refine a_bipush (v := (-2)) dX12_lasts_43 (by decide) ?_
      exact a_iret dX12_lasts_45 rfl rfl (by decide) (by decide)
    · refine a_iload_n dX12_lasts_13 rfl 1 rfl ?_
      refine a_i2l dX12_lasts_14 ?_
      refine a_ldc2 (v := 2000000000) dX12_lasts_15 w_constantLong_RainCoverModel_415 ?_
      refine a_lcmp dX12_lasts_18 ?_
      refine a_if_gt 43 dX12_lasts_19 (by decide) (fun c4 => ?_) (fun c4 => ?_)
      · refine a_bipush (v := (-2)) dX12_lasts_43 (by decide) ?_
        exact a_iret dX12_lasts_45 rfl rfl (by decide) (by decide)
      · refine a_iload_n dX12_lasts_22 rfl 3 rfl ?_
        refine a_iconst (v := 1) dX12_lasts_23 (by decide) ?_
        refine a_bipush (v := 40) dX12_lasts_24 (by decide) ?_
        refine a_cS_Pi (as := [.int p3, .int 1, .int 40]) (st := []) dX12_lasts_26 (c_X12_in l g h0 p3 1 40) rfl km_X12_in (hm_X12_in) w_methodLink_RainCoverModel_204 w_static_RainCoverModel_in__III_Z ⟨⟨by decide, by decide⟩, ⟨by decide, by decide⟩⟩ (Nat.le_of_ble_eq_true rfl) (fun v5 => ?_)
        refine a_if_eq 43 dX12_lasts_29 (by decide) (fun c6 => ?_) (fun c6 => ?_)
        · refine a_bipush (v := (-2)) dX12_lasts_43 (by decide) ?_
          exact a_iret dX12_lasts_45 rfl rfl (by decide) (by decide)
        · refine a_iload dX12_lasts_32 4 rfl ?_
          refine a_iconst (v := 1) dX12_lasts_34 (by decide) ?_
          refine a_bipush (v := 40) dX12_lasts_35 (by decide) ?_
          refine a_cS_Pi (as := [.int p4, .int 1, .int 40]) (st := []) dX12_lasts_37 (c_X12_in l g h0 p4 1 40) rfl km_X12_in (hm_X12_in) w_methodLink_RainCoverModel_204 w_static_RainCoverModel_in__III_Z ⟨⟨by decide, by decide⟩, ⟨by decide, by decide⟩⟩ (Nat.le_of_ble_eq_true rfl) (fun v7 => ?_)
          refine a_if_ne 46 dX12_lasts_40 (by decide) (fun c8 => ?_) (fun c8 => ?_)
          · refine a_bipush (v := (-2)) dX12_lasts_43 (by decide) ?_
            exact a_iret dX12_lasts_45 rfl rfl (by decide) (by decide)
          · refine a_aload_n dX12_lasts_46 rfl 0 rfl ?_
            refine a_iload_n dX12_lasts_47 rfl 2 rfl ?_
            refine a_cV_Si (r := p0) (ci := 13) (as := [.int p2]) (st := []) dX12_lasts_48 (c_X12_years l g h0 N p0 p2) rfl km_X12_years (hm_X12_years) rfl (by decide) rfl (fun _ ee => g_X12_years ee) w_methodLink_RainCoverModel_417 w_instanceMethod_RainCoverModel_years__I_I w_selects_RainCoverModel_RainCoverModel_years__I_I_RainCoverModel_years__I_I ⟨⟨by decide, by decide⟩, ⟨by decide, by decide⟩⟩ (Nat.le_of_ble_eq_true rfl) (fun q9 => ?_)
            refine a_istore (lc2 := [(5, .int q9.1), (0, .ref p0), (1, .int p1), (2, .int p2), (3, .int p3), (4, .int p4)]) dX12_lasts_51 (by decide) rfl ?_
            refine a_iload dX12_lasts_53 0 rfl ?_
            refine a_if_ne 61 dX12_lasts_55 (by decide) (fun c10 => ?_) (fun c10 => ?_)
            · refine a_bipush (v := (-3)) dX12_lasts_58 (by decide) ?_
              exact a_iret dX12_lasts_60 rfl rfl (by decide) (by decide)
            · refine a_iconst (v := 0) dX12_lasts_61 (by decide) ?_
              refine a_istore (lc2 := [(6, .int 0), (5, .int q9.1), (0, .ref p0), (1, .int p1), (2, .int p2), (3, .int p3), (4, .int p4)]) dX12_lasts_62 (by decide) rfl ?_
              refine a_pick (lc2 := [(0, .ref p0), (1, .int p1), (2, .int p2), (3, .int p3), (4, .int p4), (5, .int q9.1), (6, .int 0)]) [2, 3, 4, 5, 6, 1, 0] rfl ?_
              exact t_X12_lasts_b64 h0 N N q9.2 p0 p1 p2 p3 p4 q9.1 0
theorem dX12_owed_0 : decode cX12_owed 0 = .ok (.aload_n 0, 1) := by decide +kernel
theorem dX12_owed_1 : decode cX12_owed 1 = .ok (.iconst 0, 1) := by decide +kernel
theorem dX12_owed_2 : decode cX12_owed 2 = .ok (.iload_n 1, 1) := by decide +kernel
theorem dX12_owed_3 : decode cX12_owed 3 = .ok (.iload_n 2, 1) := by decide +kernel
theorem dX12_owed_4 : decode cX12_owed 4 = .ok (.invokevirtual 361, 3) := by decide +kernel
theorem dX12_owed_7 : decode cX12_owed 7 = .ok (.aload_n 0, 1) := by decide +kernel
theorem dX12_owed_8 : decode cX12_owed 8 = .ok (.getfield 103, 3) := by decide +kernel
theorem dX12_owed_11 : decode cX12_owed 11 = .ok (.bipush 16, 2) := by decide +kernel
theorem dX12_owed_13 : decode cX12_owed 13 = .ok (.iload_n 1, 1) := by decide +kernel
theorem dX12_owed_14 : decode cX12_owed 14 = .ok (.imul, 1) := by decide +kernel
theorem dX12_owed_15 : decode cX12_owed 15 = .ok (.iload_n 2, 1) := by decide +kernel
theorem dX12_owed_16 : decode cX12_owed 16 = .ok (.iadd, 1) := by decide +kernel
theorem dX12_owed_17 : decode cX12_owed 17 = .ok (.iaload, 1) := by decide +kernel
theorem dX12_owed_18 : decode cX12_owed 18 = .ok (.isub, 1) := by decide +kernel
theorem dX12_owed_19 : decode cX12_owed 19 = .ok (.ireturn, 1) := by decide +kernel
abbrev M_X12_owed : MI := (RX12, cX12_owed, 3, (some .int), ({ frames := 9, cells := 0, slots := 0, locals := 228 } : Room), 0, 0, false)
def f_X12_owed (h : AH) (N : Nat) (p0 : Nat) (p1 : Int32) (p2 : Int32) : Option Int32 := if kd h p0 = 13 + 1 then (f_X12_dueOf h N p0 0 p1 p2).bind fun v1 => (xgr h p0 13 34).bind fun v2 => (xia h v2 ((16 * p1) + p2)).bind fun v3 => some (v1 - v3) else none
theorem g_X12_owed {h : AH} {N : Nat} {p0 : Nat} {p1 : Int32} {p2 : Int32} {x : Int32} (e : f_X12_owed h N p0 p1 p2 = some x) : kd h p0 = 13 + 1 := by
  unfold f_X12_owed at e
  by_cases hk : kd h p0 = 13 + 1
  · exact hk
  · rw [if_neg hk] at e
    cases e
theorem km_X12_owed : KM yX12_owed M_X12_owed 2 := ⟨in_tb 1784 (by decide +kernel) rfl, in_tb 9 (by decide +kernel) rfl, by decide +kernel, rfl, rfl⟩
theorem hm_X12_owed : M_X12_owed.2.2.2.2.2.1 = 0 ∧ M_X12_owed.2.2.2.2.2.2.1 = 0 := ⟨rfl, rfl⟩
section
variable {l : Launch} {g : GG}
end
set_option maxRecDepth 100000 in
set_option maxHeartbeats 4000000 in
theorem c_X12_owed (l : Launch) (g : GG) (h : AH) (N : Nat) (p0 : Nat) (p1 : Int32) (p2 : Int32) : CN l g yX12_owed M_X12_owed false [.ref p0, .int p1, .int p2] h ((rPi h)) (f_X12_owed h N p0 p1 p2) := by
  refine CN.of (by decide) rfl (fun hh => by first | rfl | cases hh) (Nat.le_of_ble_eq_true rfl) ?_
  unfold f_X12_owed
  refine a_gd (fun hkd => ?_)
  refine a_aload_n dX12_owed_0 rfl 0 rfl ?_
  refine a_iconst (v := 0) dX12_owed_1 (by decide) ?_
  refine a_iload_n dX12_owed_2 rfl 1 rfl ?_
  refine a_iload_n dX12_owed_3 rfl 2 rfl ?_
  refine a_cV_Pi (r := p0) (ci := 13) (as := [.int 0, .int p1, .int p2]) (st := []) dX12_owed_4 (c_X12_dueOf l g h N p0 0 p1 p2) rfl km_X12_dueOf (hm_X12_dueOf) rfl (by decide) rfl (fun _ ee => g_X12_dueOf ee) w_methodLink_RainCoverModel_361 w_instanceMethod_RainCoverModel_dueOf__III_I w_selects_RainCoverModel_RainCoverModel_dueOf__III_I_RainCoverModel_dueOf__III_I ⟨⟨by decide, by decide⟩, ⟨by decide, by decide⟩⟩ (Nat.le_of_ble_eq_true rfl) (fun v1 => ?_)
  refine a_aload_n dX12_owed_7 rfl 0 rfl ?_
  refine a_getr kc13 34 dX12_owed_8 (by decide) rfl w_fieldLink_RainCoverModel_103 (fun v2 => ?_)
  refine a_bipush (v := 16) dX12_owed_11 (by decide) ?_
  refine a_iload_n dX12_owed_13 rfl 1 rfl ?_
  refine a_imul dX12_owed_14 ?_
  refine a_iload_n dX12_owed_15 rfl 2 rfl ?_
  refine a_iadd dX12_owed_16 ?_
  refine a_iald dX12_owed_17 (fun v3 => ?_)
  refine a_isub dX12_owed_18 ?_
  exact a_iret dX12_owed_19 rfl rfl (by decide) (by decide)
theorem dX12_pays_0 : decode cX12_pays 0 = .ok (.aload_n 0, 1) := by decide +kernel
theorem dX12_pays_1 : decode cX12_pays 1 = .ok (.getfield 139, 3) := by decide +kernel
theorem dX12_pays_4 : decode cX12_pays 4 = .ok (.aload_n 0, 1) := by decide +kernel
theorem dX12_pays_5 : decode cX12_pays 5 = .ok (.getfield 421, 3) := by decide +kernel
theorem dX12_pays_8 : decode cX12_pays 8 = .ok (.iload_n 1, 1) := by decide +kernel
theorem dX12_pays_9 : decode cX12_pays 9 = .ok (.iastore, 1) := by decide +kernel
theorem dX12_pays_10 : decode cX12_pays 10 = .ok (.aload_n 0, 1) := by decide +kernel
theorem dX12_pays_11 : decode cX12_pays 11 = .ok (.getfield 142, 3) := by decide +kernel
theorem dX12_pays_14 : decode cX12_pays 14 = .ok (.aload_n 0, 1) := by decide +kernel
theorem dX12_pays_15 : decode cX12_pays 15 = .ok (.getfield 421, 3) := by decide +kernel
theorem dX12_pays_18 : decode cX12_pays 18 = .ok (.iload_n 2, 1) := by decide +kernel
theorem dX12_pays_19 : decode cX12_pays 19 = .ok (.iastore, 1) := by decide +kernel
theorem dX12_pays_20 : decode cX12_pays 20 = .ok (.aload_n 0, 1) := by decide +kernel
theorem dX12_pays_21 : decode cX12_pays 21 = .ok (.getfield 145, 3) := by decide +kernel
theorem dX12_pays_24 : decode cX12_pays 24 = .ok (.aload_n 0, 1) := by decide +kernel
theorem dX12_pays_25 : decode cX12_pays 25 = .ok (.getfield 421, 3) := by decide +kernel
theorem dX12_pays_28 : decode cX12_pays 28 = .ok (.iload_n 3, 1) := by decide +kernel
theorem dX12_pays_29 : decode cX12_pays 29 = .ok (.iastore, 1) := by decide +kernel
theorem dX12_pays_30 : decode cX12_pays 30 = .ok (.aload_n 0, 1) := by decide +kernel
theorem dX12_pays_31 : decode cX12_pays 31 = .ok (.getfield 148, 3) := by decide +kernel
theorem dX12_pays_34 : decode cX12_pays 34 = .ok (.aload_n 0, 1) := by decide +kernel
theorem dX12_pays_35 : decode cX12_pays 35 = .ok (.getfield 421, 3) := by decide +kernel
theorem dX12_pays_38 : decode cX12_pays 38 = .ok (.iconst 0, 1) := by decide +kernel
theorem dX12_pays_39 : decode cX12_pays 39 = .ok (.iastore, 1) := by decide +kernel
theorem dX12_pays_40 : decode cX12_pays 40 = .ok (.aload_n 0, 1) := by decide +kernel
theorem dX12_pays_41 : decode cX12_pays 41 = .ok (.dup, 1) := by decide +kernel
theorem dX12_pays_42 : decode cX12_pays 42 = .ok (.getfield 421, 3) := by decide +kernel
theorem dX12_pays_45 : decode cX12_pays 45 = .ok (.iconst 1, 1) := by decide +kernel
theorem dX12_pays_46 : decode cX12_pays 46 = .ok (.iadd, 1) := by decide +kernel
theorem dX12_pays_47 : decode cX12_pays 47 = .ok (.putfield 421, 3) := by decide +kernel
theorem dX12_pays_50 : decode cX12_pays 50 = .ok (.return_, 1) := by decide +kernel
abbrev M_X12_pays : MI := (RX12, cX12_pays, 4, none, ({ frames := 0, cells := 0, slots := 0, locals := 0 } : Room), 0, 0, false)
def f_X12_pays (h0 : AH) (p0 : Nat) (p1 : Int32) (p2 : Int32) (p3 : Int32) : Option AH := if kd h0 p0 = 13 + 1 then (xgr h0 p0 13 50).bind fun v1 => (xgi h0 p0 13 49).bind fun v2 => (xis h0 v1 v2 p1).bind fun h3 => (xgr h3 p0 13 51).bind fun v4 => (xgi h3 p0 13 49).bind fun v5 => (xis h3 v4 v5 p2).bind fun h6 => (xgr h6 p0 13 52).bind fun v7 => (xgi h6 p0 13 49).bind fun v8 => (xis h6 v7 v8 p3).bind fun h9 => (xgr h9 p0 13 53).bind fun v10 => (xgi h9 p0 13 49).bind fun v11 => (xis h9 v10 v11 0).bind fun h12 => (xgi h12 p0 13 49).bind fun v13 => (xpi h12 p0 13 49 (v13 + 1)).bind fun h14 => some h14 else none
theorem g_X12_pays {h0 : AH} {p0 : Nat} {p1 : Int32} {p2 : Int32} {p3 : Int32} {x : AH} (e : f_X12_pays h0 p0 p1 p2 p3 = some x) : kd h0 p0 = 13 + 1 := by
  unfold f_X12_pays at e
  by_cases hk : kd h0 p0 = 13 + 1
  · exact hk
  · rw [if_neg hk] at e
    cases e
theorem km_X12_pays : KM yX12_pays M_X12_pays 3 := ⟨in_tb 1788 (by decide +kernel) rfl, in_tb 9 (by decide +kernel) rfl, by decide +kernel, rfl, rfl⟩
theorem hm_X12_pays : M_X12_pays.2.2.2.2.2.1 = 0 ∧ M_X12_pays.2.2.2.2.2.2.1 = 0 := ⟨rfl, rfl⟩
section
variable {l : Launch} {g : GG}
end
set_option maxRecDepth 100000 in
set_option maxHeartbeats 4000000 in
theorem c_X12_pays (l : Launch) (g : GG) (h0 : AH) (p0 : Nat) (p1 : Int32) (p2 : Int32) (p3 : Int32) : CN l g yX12_pays M_X12_pays false [.ref p0, .int p1, .int p2, .int p3] h0 rSv (f_X12_pays h0 p0 p1 p2 p3) := by
  refine CN.of (by decide) rfl (fun hh => by first | rfl | cases hh) (Nat.le_of_ble_eq_true rfl) ?_
  unfold f_X12_pays
  refine a_gd (fun hkd => ?_)
  refine a_aload_n dX12_pays_0 rfl 0 rfl ?_
  refine a_getr kc13 50 dX12_pays_1 (by decide) rfl w_fieldLink_RainCoverModel_139 (fun v1 => ?_)
  refine a_aload_n dX12_pays_4 rfl 0 rfl ?_
  refine a_geti kc13 49 dX12_pays_5 (by decide) rfl w_fieldLink_RainCoverModel_421 (fun v2 => ?_)
  refine a_iload_n dX12_pays_8 rfl 1 rfl ?_
  refine a_iast dX12_pays_9 (fun h3 => ?_)
  refine a_aload_n dX12_pays_10 rfl 0 rfl ?_
  refine a_getr kc13 51 dX12_pays_11 (by decide) rfl w_fieldLink_RainCoverModel_142 (fun v4 => ?_)
  refine a_aload_n dX12_pays_14 rfl 0 rfl ?_
  refine a_geti kc13 49 dX12_pays_15 (by decide) rfl w_fieldLink_RainCoverModel_421 (fun v5 => ?_)
  refine a_iload_n dX12_pays_18 rfl 2 rfl ?_
  refine a_iast dX12_pays_19 (fun h6 => ?_)
  refine a_aload_n dX12_pays_20 rfl 0 rfl ?_
  refine a_getr kc13 52 dX12_pays_21 (by decide) rfl w_fieldLink_RainCoverModel_145 (fun v7 => ?_)
  refine a_aload_n dX12_pays_24 rfl 0 rfl ?_
  refine a_geti kc13 49 dX12_pays_25 (by decide) rfl w_fieldLink_RainCoverModel_421 (fun v8 => ?_)
  refine a_iload_n dX12_pays_28 rfl 3 rfl ?_
  refine a_iast dX12_pays_29 (fun h9 => ?_)
  refine a_aload_n dX12_pays_30 rfl 0 rfl ?_
  refine a_getr kc13 53 dX12_pays_31 (by decide) rfl w_fieldLink_RainCoverModel_148 (fun v10 => ?_)
  refine a_aload_n dX12_pays_34 rfl 0 rfl ?_
  refine a_geti kc13 49 dX12_pays_35 (by decide) rfl w_fieldLink_RainCoverModel_421 (fun v11 => ?_)
  refine a_iconst (v := 0) dX12_pays_38 (by decide) ?_
  refine a_iast dX12_pays_39 (fun h12 => ?_)
  refine a_aload_n dX12_pays_40 rfl 0 rfl ?_
  refine a_dup dX12_pays_41 rfl ?_
  refine a_geti kc13 49 dX12_pays_42 (by decide) rfl w_fieldLink_RainCoverModel_421 (fun v13 => ?_)
  refine a_iconst (v := 1) dX12_pays_45 (by decide) ?_
  refine a_iadd dX12_pays_46 ?_
  refine a_puti kc13 49 dX12_pays_47 (by decide) rfl w_fieldLink_RainCoverModel_421 rfl rfl (fun h14 => ?_)
  exact a_vret dX12_pays_50 rfl rfl (by decide) (by decide)
theorem dX12_settle_0 : decode cX12_settle 0 = .ok (.iload_n 1, 1) := by decide +kernel
theorem dX12_settle_1 : decode cX12_settle 1 = .ok (.invokestatic 221, 3) := by decide +kernel
theorem dX12_settle_4 : decode cX12_settle 4 = .ok (.ifCond .ne 5, 3) := by decide +kernel
theorem dX12_settle_7 : decode cX12_settle 7 = .ok (.iconst (-1), 1) := by decide +kernel
theorem dX12_settle_8 : decode cX12_settle 8 = .ok (.ireturn, 1) := by decide +kernel
theorem dX12_settle_9 : decode cX12_settle 9 = .ok (.iconst 0, 1) := by decide +kernel
theorem dX12_settle_10 : decode cX12_settle 10 = .ok (.istore_n 2, 1) := by decide +kernel
theorem dX12_settle_11 : decode cX12_settle 11 = .ok (.iconst 0, 1) := by decide +kernel
theorem dX12_settle_12 : decode cX12_settle 12 = .ok (.istore_n 3, 1) := by decide +kernel
theorem dX12_settle_13 : decode cX12_settle 13 = .ok (.iload_n 3, 1) := by decide +kernel
theorem dX12_settle_14 : decode cX12_settle 14 = .ok (.aload_n 0, 1) := by decide +kernel
theorem dX12_settle_15 : decode cX12_settle 15 = .ok (.getfield 214, 3) := by decide +kernel
theorem dX12_settle_18 : decode cX12_settle 18 = .ok (.if_icmp .ge 32, 3) := by decide +kernel
theorem dX12_settle_21 : decode cX12_settle 21 = .ok (.iload_n 2, 1) := by decide +kernel
theorem dX12_settle_22 : decode cX12_settle 22 = .ok (.aload_n 0, 1) := by decide +kernel
theorem dX12_settle_23 : decode cX12_settle 23 = .ok (.iload_n 3, 1) := by decide +kernel
theorem dX12_settle_24 : decode cX12_settle 24 = .ok (.iload_n 1, 1) := by decide +kernel
theorem dX12_settle_25 : decode cX12_settle 25 = .ok (.invokevirtual 424, 3) := by decide +kernel
theorem dX12_settle_28 : decode cX12_settle 28 = .ok (.aload_n 0, 1) := by decide +kernel
theorem dX12_settle_29 : decode cX12_settle 29 = .ok (.getfield 94, 3) := by decide +kernel
theorem dX12_settle_32 : decode cX12_settle 32 = .ok (.iload_n 3, 1) := by decide +kernel
theorem dX12_settle_33 : decode cX12_settle 33 = .ok (.iaload, 1) := by decide +kernel
theorem dX12_settle_34 : decode cX12_settle 34 = .ok (.if_icmp .le 7, 3) := by decide +kernel
theorem dX12_settle_37 : decode cX12_settle 37 = .ok (.iconst 1, 1) := by decide +kernel
theorem dX12_settle_38 : decode cX12_settle 38 = .ok (.goto 4, 3) := by decide +kernel
theorem dX12_settle_41 : decode cX12_settle 41 = .ok (.iconst 0, 1) := by decide +kernel
theorem dX12_settle_42 : decode cX12_settle 42 = .ok (.iadd, 1) := by decide +kernel
theorem dX12_settle_43 : decode cX12_settle 43 = .ok (.istore_n 2, 1) := by decide +kernel
theorem dX12_settle_44 : decode cX12_settle 44 = .ok (.iinc 3 1, 3) := by decide +kernel
theorem dX12_settle_47 : decode cX12_settle 47 = .ok (.goto (-34), 3) := by decide +kernel
theorem dX12_settle_50 : decode cX12_settle 50 = .ok (.aload_n 0, 1) := by decide +kernel
theorem dX12_settle_51 : decode cX12_settle 51 = .ok (.getfield 421, 3) := by decide +kernel
theorem dX12_settle_54 : decode cX12_settle 54 = .ok (.iload_n 2, 1) := by decide +kernel
theorem dX12_settle_55 : decode cX12_settle 55 = .ok (.iadd, 1) := by decide +kernel
theorem dX12_settle_56 : decode cX12_settle 56 = .ok (.sipush 200, 3) := by decide +kernel
theorem dX12_settle_59 : decode cX12_settle 59 = .ok (.if_icmp .le 6, 3) := by decide +kernel
theorem dX12_settle_62 : decode cX12_settle 62 = .ok (.bipush (-4), 2) := by decide +kernel
theorem dX12_settle_64 : decode cX12_settle 64 = .ok (.ireturn, 1) := by decide +kernel
theorem dX12_settle_65 : decode cX12_settle 65 = .ok (.iconst 0, 1) := by decide +kernel
theorem dX12_settle_66 : decode cX12_settle 66 = .ok (.istore_n 3, 1) := by decide +kernel
theorem dX12_settle_67 : decode cX12_settle 67 = .ok (.iload_n 3, 1) := by decide +kernel
theorem dX12_settle_68 : decode cX12_settle 68 = .ok (.aload_n 0, 1) := by decide +kernel
theorem dX12_settle_69 : decode cX12_settle 69 = .ok (.getfield 214, 3) := by decide +kernel
theorem dX12_settle_72 : decode cX12_settle 72 = .ok (.if_icmp .ge 83, 3) := by decide +kernel
theorem dX12_settle_75 : decode cX12_settle 75 = .ok (.aload_n 0, 1) := by decide +kernel
theorem dX12_settle_76 : decode cX12_settle 76 = .ok (.iload_n 3, 1) := by decide +kernel
theorem dX12_settle_77 : decode cX12_settle 77 = .ok (.iload_n 1, 1) := by decide +kernel
theorem dX12_settle_78 : decode cX12_settle 78 = .ok (.invokevirtual 424, 3) := by decide +kernel
theorem dX12_settle_81 : decode cX12_settle 81 = .ok (.istore 4, 2) := by decide +kernel
theorem dX12_settle_83 : decode cX12_settle 83 = .ok (.aload_n 0, 1) := by decide +kernel
theorem dX12_settle_84 : decode cX12_settle 84 = .ok (.getfield 103, 3) := by decide +kernel
theorem dX12_settle_87 : decode cX12_settle 87 = .ok (.bipush 16, 2) := by decide +kernel
theorem dX12_settle_89 : decode cX12_settle 89 = .ok (.iload_n 3, 1) := by decide +kernel
theorem dX12_settle_90 : decode cX12_settle 90 = .ok (.imul, 1) := by decide +kernel
theorem dX12_settle_91 : decode cX12_settle 91 = .ok (.iload_n 1, 1) := by decide +kernel
theorem dX12_settle_92 : decode cX12_settle 92 = .ok (.iadd, 1) := by decide +kernel
theorem dX12_settle_93 : decode cX12_settle 93 = .ok (.dup2, 1) := by decide +kernel
theorem dX12_settle_94 : decode cX12_settle 94 = .ok (.iaload, 1) := by decide +kernel
theorem dX12_settle_95 : decode cX12_settle 95 = .ok (.iload 4, 2) := by decide +kernel
theorem dX12_settle_97 : decode cX12_settle 97 = .ok (.iadd, 1) := by decide +kernel
theorem dX12_settle_98 : decode cX12_settle 98 = .ok (.iastore, 1) := by decide +kernel
theorem dX12_settle_99 : decode cX12_settle 99 = .ok (.iload 4, 2) := by decide +kernel
theorem dX12_settle_101 : decode cX12_settle 101 = .ok (.aload_n 0, 1) := by decide +kernel
theorem dX12_settle_102 : decode cX12_settle 102 = .ok (.getfield 94, 3) := by decide +kernel
theorem dX12_settle_105 : decode cX12_settle 105 = .ok (.iload_n 3, 1) := by decide +kernel
theorem dX12_settle_106 : decode cX12_settle 106 = .ok (.iaload, 1) := by decide +kernel
theorem dX12_settle_107 : decode cX12_settle 107 = .ok (.isub, 1) := by decide +kernel
theorem dX12_settle_108 : decode cX12_settle 108 = .ok (.istore 5, 2) := by decide +kernel
theorem dX12_settle_110 : decode cX12_settle 110 = .ok (.iload 4, 2) := by decide +kernel
theorem dX12_settle_112 : decode cX12_settle 112 = .ok (.ifCond .lt 8, 3) := by decide +kernel
theorem dX12_settle_115 : decode cX12_settle 115 = .ok (.iload 5, 2) := by decide +kernel
theorem dX12_settle_117 : decode cX12_settle 117 = .ok (.ifCond .gt 17, 3) := by decide +kernel
theorem dX12_settle_120 : decode cX12_settle 120 = .ok (.aload_n 0, 1) := by decide +kernel
theorem dX12_settle_121 : decode cX12_settle 121 = .ok (.getfield 94, 3) := by decide +kernel
theorem dX12_settle_124 : decode cX12_settle 124 = .ok (.iload_n 3, 1) := by decide +kernel
theorem dX12_settle_125 : decode cX12_settle 125 = .ok (.dup2, 1) := by decide +kernel
theorem dX12_settle_126 : decode cX12_settle 126 = .ok (.iaload, 1) := by decide +kernel
theorem dX12_settle_127 : decode cX12_settle 127 = .ok (.iload 4, 2) := by decide +kernel
theorem dX12_settle_129 : decode cX12_settle 129 = .ok (.isub, 1) := by decide +kernel
theorem dX12_settle_130 : decode cX12_settle 130 = .ok (.iastore, 1) := by decide +kernel
theorem dX12_settle_131 : decode cX12_settle 131 = .ok (.goto 18, 3) := by decide +kernel
theorem dX12_settle_134 : decode cX12_settle 134 = .ok (.aload_n 0, 1) := by decide +kernel
theorem dX12_settle_135 : decode cX12_settle 135 = .ok (.getfield 94, 3) := by decide +kernel
theorem dX12_settle_138 : decode cX12_settle 138 = .ok (.iload_n 3, 1) := by decide +kernel
theorem dX12_settle_139 : decode cX12_settle 139 = .ok (.iconst 0, 1) := by decide +kernel
theorem dX12_settle_140 : decode cX12_settle 140 = .ok (.iastore, 1) := by decide +kernel
theorem dX12_settle_141 : decode cX12_settle 141 = .ok (.aload_n 0, 1) := by decide +kernel
theorem dX12_settle_142 : decode cX12_settle 142 = .ok (.iload_n 3, 1) := by decide +kernel
theorem dX12_settle_143 : decode cX12_settle 143 = .ok (.iload_n 1, 1) := by decide +kernel
theorem dX12_settle_144 : decode cX12_settle 144 = .ok (.iload 5, 2) := by decide +kernel
theorem dX12_settle_146 : decode cX12_settle 146 = .ok (.invokevirtual 427, 3) := by decide +kernel
theorem dX12_settle_149 : decode cX12_settle 149 = .ok (.iinc 3 1, 3) := by decide +kernel
theorem dX12_settle_152 : decode cX12_settle 152 = .ok (.goto (-85), 3) := by decide +kernel
theorem dX12_settle_155 : decode cX12_settle 155 = .ok (.iload_n 2, 1) := by decide +kernel
theorem dX12_settle_156 : decode cX12_settle 156 = .ok (.ireturn, 1) := by decide +kernel
abbrev M_X12_settle : MI := (RX12, cX12_settle, 6, (some .int), ({ frames := 10, cells := 0, slots := 0, locals := 250 } : Room), 0, 0, false)
def f_X12_settle_b42 (N : Nat) (K13 : AH → Nat → Int32 → Int32 → Int32 → Option (Int32 × AH)) (h : AH) (x0 : Nat) (x1 : Int32) (x3 : Int32) (s3 : Int32) (s4 : Int32) : Option (Int32 × AH) := K13 h x0 x1 (s4 + s3) (x3 + 1)
def f_X12_settle_b149 (N : Nat) (K67 : AH → Nat → Int32 → Int32 → Int32 → Option (Int32 × AH)) (h : AH) (x0 : Nat) (x1 : Int32) (x2 : Int32) (x3 : Int32) : Option (Int32 × AH) := K67 h x0 x1 x2 (x3 + 1)
def f_X12_settle_b120 (N : Nat) (K67 : AH → Nat → Int32 → Int32 → Int32 → Option (Int32 × AH)) (h : AH) (x0 : Nat) (x1 : Int32) (x2 : Int32) (x3 : Int32) (x4 : Int32) : Option (Int32 × AH) := (xgr h x0 13 31).bind fun v24 => (xia h v24 x3).bind fun v25 => (xis h v24 x3 (v25 - x4)).bind fun h26 => f_X12_settle_b149 N K67 h26 x0 x1 x2 x3
def f_X12_settle_b67_body (N : Nat) (K67 : AH → Nat → Int32 → Int32 → Int32 → Option (Int32 × AH)) (h : AH) (x0 : Nat) (x1 : Int32) (x2 : Int32) (x3 : Int32) : Option (Int32 × AH) := (xgi h x0 13 26).bind fun v11 => (if v11 ≤ x3 then some (x2, h) else (f_X12_owed h N x0 x3 x1).bind fun v13 => (xgr h x0 13 34).bind fun v14 => (xia h v14 ((16 * x3) + x1)).bind fun v15 => (xis h v14 ((16 * x3) + x1) (v15 + v13)).bind fun h16 => (xgr h16 x0 13 31).bind fun v17 => (xia h16 v17 x3).bind fun v18 => (if v13 < 0 then f_X12_settle_b120 N K67 h16 x0 x1 x2 x3 v13 else (if 0 < (v13 - v18) then (xgr h16 x0 13 31).bind fun v21 => (xis h16 v21 x3 0).bind fun h22 => (f_X12_pays h22 x0 x3 x1 (v13 - v18)).bind fun q23 => f_X12_settle_b149 N K67 q23 x0 x1 x2 x3 else f_X12_settle_b120 N K67 h16 x0 x1 x2 x3 v13)))
def f_X12_settle_b67 (N : Nat) : Nat → AH → Nat → Int32 → Int32 → Int32 → Option (Int32 × AH)
  | 0, _, _, _, _, _ => none
  | n + 1, h, x0, x1, x2, x3 => f_X12_settle_b67_body N  (f_X12_settle_b67 N  n) h x0 x1 x2 x3
def f_X12_settle_b13_body (N : Nat) (K13 : AH → Nat → Int32 → Int32 → Int32 → Option (Int32 × AH)) (h : AH) (x0 : Nat) (x1 : Int32) (x2 : Int32) (x3 : Int32) : Option (Int32 × AH) := (xgi h x0 13 26).bind fun v3 => (if v3 ≤ x3 then (xgi h x0 13 49).bind fun v5 => (if (v5 + x2) ≤ 200 then f_X12_settle_b67 N N h x0 x1 x2 0 else some ((-4), h)) else (f_X12_owed h N x0 x3 x1).bind fun v7 => (xgr h x0 13 31).bind fun v8 => (xia h v8 x3).bind fun v9 => (if v7 ≤ v9 then f_X12_settle_b42 N K13 h x0 x1 x3 0 x2 else f_X12_settle_b42 N K13 h x0 x1 x3 1 x2))
def f_X12_settle_b13 (N : Nat) : Nat → AH → Nat → Int32 → Int32 → Int32 → Option (Int32 × AH)
  | 0, _, _, _, _, _ => none
  | n + 1, h, x0, x1, x2, x3 => f_X12_settle_b13_body N  (f_X12_settle_b13 N  n) h x0 x1 x2 x3
def f_X12_settle (h0 : AH) (N : Nat) (p0 : Nat) (p1 : Int32) : Option (Int32 × AH) := if kd h0 p0 = 13 + 1 then (f_X12_isSeason h0 p1).bind fun v1 => (if v1 = 0 then some ((-1), h0) else f_X12_settle_b13 N N h0 p0 p1 0 0) else none
theorem g_X12_settle {h0 : AH} {N : Nat} {p0 : Nat} {p1 : Int32} {x : (Int32 × AH)} (e : f_X12_settle h0 N p0 p1 = some x) : kd h0 p0 = 13 + 1 := by
  unfold f_X12_settle at e
  by_cases hk : kd h0 p0 = 13 + 1
  · exact hk
  · rw [if_neg hk] at e
    cases e
theorem km_X12_settle : KM yX12_settle M_X12_settle 1 := ⟨in_tb 1780 (by decide +kernel) rfl, in_tb 9 (by decide +kernel) rfl, by decide +kernel, rfl, rfl⟩
theorem hm_X12_settle : M_X12_settle.2.2.2.2.2.1 = 0 ∧ M_X12_settle.2.2.2.2.2.2.1 = 0 := ⟨rfl, rfl⟩
section
variable {l : Launch} {g : GG}
set_option maxRecDepth 100000 in
set_option maxHeartbeats 4000000 in
theorem t_X12_settle_b42 (h0 : AH) (N : Nat) (K13 : AH → Nat → Int32 → Int32 → Int32 → Option (Int32 × AH)) (hK13 : ∀ (z : AH) (z0 : Nat) (z1 : Int32) (z2 : Int32) (z3 : Int32), AO l g M_X12_settle false h0 13 [(0, .ref z0), (1, .int z1), (2, .int z2), (3, .int z3)] [] z 0 0 rSi (K13 z z0 z1 z2 z3)) (h : AH) (x0 : Nat) (x1 : Int32) (x3 : Int32) (s3 : Int32) (s4 : Int32) : AO l g M_X12_settle false h0 42 [(0, .ref x0), (1, .int x1), (3, .int x3)] [.int s3, .int s4] h 0 0 rSi (f_X12_settle_b42 N K13 h x0 x1 x3 s3 s4) := by
  unfold f_X12_settle_b42
  refine a_iadd dX12_settle_42 ?_
  refine a_istore_n (lc2 := [(2, .int (s4 + s3)), (0, .ref x0), (1, .int x1), (3, .int x3)]) dX12_settle_43 rfl (by decide) rfl ?_
  refine a_iinc (q := 3) (v := (x3 + 1)) (lc2 := [(3, .int (x3 + 1)), (2, .int (s4 + s3)), (0, .ref x0), (1, .int x1)]) dX12_settle_44 rfl rfl (by decide) rfl ?_
  refine a_goto 13 dX12_settle_47 (by decide) ?_
  refine a_pick (lc2 := [(0, .ref x0), (1, .int x1), (2, .int (s4 + s3)), (3, .int (x3 + 1))]) [2, 3, 1, 0] rfl ?_
  exact hK13 h x0 x1 (s4 + s3) (x3 + 1)
set_option maxRecDepth 100000 in
set_option maxHeartbeats 4000000 in
theorem t_X12_settle_b149 (h0 : AH) (N : Nat) (K67 : AH → Nat → Int32 → Int32 → Int32 → Option (Int32 × AH)) (hK67 : ∀ (z : AH) (z0 : Nat) (z1 : Int32) (z2 : Int32) (z3 : Int32), AO l g M_X12_settle false h0 67 [(0, .ref z0), (1, .int z1), (2, .int z2), (3, .int z3)] [] z 0 0 rSi (K67 z z0 z1 z2 z3)) (h : AH) (x0 : Nat) (x1 : Int32) (x2 : Int32) (x3 : Int32) : AO l g M_X12_settle false h0 149 [(0, .ref x0), (1, .int x1), (2, .int x2), (3, .int x3)] [] h 0 0 rSi (f_X12_settle_b149 N K67 h x0 x1 x2 x3) := by
  unfold f_X12_settle_b149
  refine a_iinc (q := 3) (v := (x3 + 1)) (lc2 := [(3, .int (x3 + 1)), (0, .ref x0), (1, .int x1), (2, .int x2)]) dX12_settle_149 rfl rfl (by decide) rfl ?_
  refine a_goto 67 dX12_settle_152 (by decide) ?_
  refine a_pick (lc2 := [(0, .ref x0), (1, .int x1), (2, .int x2), (3, .int (x3 + 1))]) [1, 2, 3, 0] rfl ?_
  exact hK67 h x0 x1 x2 (x3 + 1)
set_option maxRecDepth 100000 in
set_option maxHeartbeats 4000000 in
theorem t_X12_settle_b120 (h0 : AH) (N : Nat) (K67 : AH → Nat → Int32 → Int32 → Int32 → Option (Int32 × AH)) (hK67 : ∀ (z : AH) (z0 : Nat) (z1 : Int32) (z2 : Int32) (z3 : Int32), AO l g M_X12_settle false h0 67 [(0, .ref z0), (1, .int z1), (2, .int z2), (3, .int z3)] [] z 0 0 rSi (K67 z z0 z1 z2 z3)) (h : AH) (x0 : Nat) (x1 : Int32) (x2 : Int32) (x3 : Int32) (x4 : Int32) : AO l g M_X12_settle false h0 120 [(0, .ref x0), (1, .int x1), (2, .int x2), (3, .int x3), (4, .int x4)] [] h 0 0 rSi (f_X12_settle_b120 N K67 h x0 x1 x2 x3 x4) := by
  unfold f_X12_settle_b120
  refine a_aload_n dX12_settle_120 rfl 0 rfl ?_
  refine a_getr kc13 31 dX12_settle_121 (by decide) rfl w_fieldLink_RainCoverModel_94 (fun v24 => ?_)
  refine a_iload_n dX12_settle_124 rfl 3 rfl ?_
  refine a_dup2 dX12_settle_125 rfl rfl ?_
  refine a_iald dX12_settle_126 (fun v25 => ?_)
  refine a_iload dX12_settle_127 4 rfl ?_
  refine a_isub dX12_settle_129 ?_
  refine a_iast dX12_settle_130 (fun h26 => ?_)
  refine a_goto 149 dX12_settle_131 (by decide) ?_
  refine a_pick (lc2 := [(0, .ref x0), (1, .int x1), (2, .int x2), (3, .int x3)]) [0, 1, 2, 3] rfl ?_
  exact t_X12_settle_b149 h0 N K67 hK67 h26 x0 x1 x2 x3
set_option maxRecDepth 100000 in
set_option maxHeartbeats 4000000 in
theorem t_X12_settle_b67_body (h0 : AH) (N : Nat) (K67 : AH → Nat → Int32 → Int32 → Int32 → Option (Int32 × AH)) (hK67 : ∀ (z : AH) (z0 : Nat) (z1 : Int32) (z2 : Int32) (z3 : Int32), AO l g M_X12_settle false h0 67 [(0, .ref z0), (1, .int z1), (2, .int z2), (3, .int z3)] [] z 0 0 rSi (K67 z z0 z1 z2 z3)) (h : AH) (x0 : Nat) (x1 : Int32) (x2 : Int32) (x3 : Int32) : AO l g M_X12_settle false h0 67 [(0, .ref x0), (1, .int x1), (2, .int x2), (3, .int x3)] [] h 0 0 rSi (f_X12_settle_b67_body N K67 h x0 x1 x2 x3) := by
  unfold f_X12_settle_b67_body
  refine a_iload_n dX12_settle_67 rfl 3 rfl ?_
  refine a_aload_n dX12_settle_68 rfl 0 rfl ?_
  refine a_geti kc13 26 dX12_settle_69 (by decide) rfl w_fieldLink_RainCoverModel_214 (fun v11 => ?_)
  refine a_icmp_ge 155 dX12_settle_72 (by decide) (fun c12 => ?_) (fun c12 => ?_)
  · refine a_iload_n dX12_settle_155 rfl 2 rfl ?_
    exact a_iret dX12_settle_156 rfl rfl (by decide) (by decide)
  · refine a_aload_n dX12_settle_75 rfl 0 rfl ?_
    refine a_iload_n dX12_settle_76 rfl 3 rfl ?_
    refine a_iload_n dX12_settle_77 rfl 1 rfl ?_
    refine a_cV_Pi (r := x0) (ci := 13) (as := [.int x3, .int x1]) (st := []) dX12_settle_78 (c_X12_owed l g h N x0 x3 x1) rfl km_X12_owed (hm_X12_owed) rfl (by decide) rfl (fun _ ee => g_X12_owed ee) w_methodLink_RainCoverModel_424 w_instanceMethod_RainCoverModel_owed__II_I w_selects_RainCoverModel_RainCoverModel_owed__II_I_RainCoverModel_owed__II_I ⟨⟨by decide, by decide⟩, ⟨by decide, by decide⟩⟩ (Nat.le_of_ble_eq_true rfl) (fun v13 => ?_)
    refine a_istore (lc2 := [(4, .int v13), (0, .ref x0), (1, .int x1), (2, .int x2), (3, .int x3)]) dX12_settle_81 (by decide) rfl ?_
    refine a_aload_n dX12_settle_83 rfl 1 rfl ?_
    refine a_getr kc13 34 dX12_settle_84 (by decide) rfl w_fieldLink_RainCoverModel_103 (fun v14 => ?_)
    refine a_bipush (v := 16) dX12_settle_87 (by decide) ?_
    refine a_iload_n dX12_settle_89 rfl 4 rfl ?_
    refine a_imul dX12_settle_90 ?_
    refine a_iload_n dX12_settle_91 rfl 2 rfl ?_
    refine a_iadd dX12_settle_92 ?_
    refine a_dup2 dX12_settle_93 rfl rfl ?_
    refine a_iald dX12_settle_94 (fun v15 => ?_)
    refine a_iload dX12_settle_95 0 rfl ?_
    refine a_iadd dX12_settle_97 ?_
    refine a_iast dX12_settle_98 (fun h16 => ?_)
    refine a_iload dX12_settle_99 0 rfl ?_
    refine a_aload_n dX12_settle_101 rfl 1 rfl ?_
    refine a_getr kc13 31 dX12_settle_102 (by decide) rfl w_fieldLink_RainCoverModel_94 (fun v17 => ?_)
    refine a_iload_n dX12_settle_105 rfl 4 rfl ?_
    refine a_iald dX12_settle_106 (fun v18 => ?_)
    refine a_isub dX12_settle_107 ?_
    refine a_istore (lc2 := [(5, .int (v13 - v18)), (4, .int v13), (0, .ref x0), (1, .int x1), (2, .int x2), (3, .int x3)]) dX12_settle_108 (by decide) rfl ?_
    refine a_iload dX12_settle_110 1 rfl ?_
    refine a_if_lt 120 dX12_settle_112 (by decide) (fun c19 => ?_) (fun c19 => ?_)
    · refine a_pick (lc2 := [(0, .ref x0), (1, .int x1), (2, .int x2), (3, .int x3), (4, .int v13)]) [2, 3, 4, 5, 1] rfl ?_
      exact t_X12_settle_b120 h0 N K67 hK67 h16 x0 x1 x2 x3 v13
    · refine a_iload dX12_settle_115 0 rfl ?_
      refine a_if_gt 134 dX12_settle_117 (by decide) (fun c20 => ?_) (fun c20 => ?_)
      · refine a_aload_n dX12_settle_134 rfl 2 rfl ?_
        refine a_getr kc13 31 dX12_settle_135 (by decide) rfl w_fieldLink_RainCoverModel_94 (fun v21 => ?_)
        refine a_iload_n dX12_settle_138 rfl 5 rfl ?_
        refine a_iconst (v := 0) dX12_settle_139 (by decide) ?_
        refine a_iast dX12_settle_140 (fun h22 => ?_)
        refine a_aload_n dX12_settle_141 rfl 2 rfl ?_
        refine a_iload_n dX12_settle_142 rfl 5 rfl ?_
        refine a_iload_n dX12_settle_143 rfl 3 rfl ?_
        refine a_iload dX12_settle_144 0 rfl ?_
        refine a_cV_Sv (r := x0) (ci := 13) (as := [.int x3, .int x1, .int (v13 - v18)]) (st := []) dX12_settle_146 (c_X12_pays l g h22 x0 x3 x1 (v13 - v18)) rfl km_X12_pays (hm_X12_pays) rfl (by decide) rfl (fun _ ee => g_X12_pays ee) w_methodLink_RainCoverModel_427 w_instanceMethod_RainCoverModel_pays__III_V w_selects_RainCoverModel_RainCoverModel_pays__III_V_RainCoverModel_pays__III_V ⟨⟨by decide, by decide⟩, ⟨by decide, by decide⟩⟩ (Nat.le_of_ble_eq_true rfl) (fun q23 => ?_)
        refine a_pick (lc2 := [(0, .ref x0), (1, .int x1), (2, .int x2), (3, .int x3)]) [2, 3, 4, 5] rfl ?_
        exact t_X12_settle_b149 h0 N K67 hK67 q23 x0 x1 x2 x3
      · refine a_pick (lc2 := [(0, .ref x0), (1, .int x1), (2, .int x2), (3, .int x3), (4, .int v13)]) [2, 3, 4, 5, 1] rfl ?_
        exact t_X12_settle_b120 h0 N K67 hK67 h16 x0 x1 x2 x3 v13
set_option maxRecDepth 100000 in
set_option maxHeartbeats 4000000 in
theorem t_X12_settle_b67 (h0 : AH) (N : Nat) : ∀ (n : Nat) (h : AH) (x0 : Nat) (x1 : Int32) (x2 : Int32) (x3 : Int32) , AO l g M_X12_settle false h0 67 [(0, .ref x0), (1, .int x1), (2, .int x2), (3, .int x3)] [] h 0 0 rSi (f_X12_settle_b67 N  n h x0 x1 x2 x3) := by
  intro n
  induction n with
  | zero => intro h x0 x1 x2 x3; exact a_eq rfl a_none
  | succ n ih => intro h x0 x1 x2 x3; exact a_eq rfl (t_X12_settle_b67_body h0 N  (f_X12_settle_b67 N  n) ih h x0 x1 x2 x3)
set_option maxRecDepth 100000 in
set_option maxHeartbeats 4000000 in
theorem t_X12_settle_b13_body (h0 : AH) (N : Nat) (K13 : AH → Nat → Int32 → Int32 → Int32 → Option (Int32 × AH)) (hK13 : ∀ (z : AH) (z0 : Nat) (z1 : Int32) (z2 : Int32) (z3 : Int32), AO l g M_X12_settle false h0 13 [(0, .ref z0), (1, .int z1), (2, .int z2), (3, .int z3)] [] z 0 0 rSi (K13 z z0 z1 z2 z3)) (h : AH) (x0 : Nat) (x1 : Int32) (x2 : Int32) (x3 : Int32) : AO l g M_X12_settle false h0 13 [(0, .ref x0), (1, .int x1), (2, .int x2), (3, .int x3)] [] h 0 0 rSi (f_X12_settle_b13_body N K13 h x0 x1 x2 x3) := by
  unfold f_X12_settle_b13_body
  refine a_iload_n dX12_settle_13 rfl 3 rfl ?_
  refine a_aload_n dX12_settle_14 rfl 0 rfl ?_
  refine a_geti kc13 26 dX12_settle_15 (by decide) rfl w_fieldLink_RainCoverModel_214 (fun v3 => ?_)
  refine a_icmp_ge 50 dX12_settle_18 (by decide) (fun c4 => ?_) (fun c4 => ?_)
  · refine a_aload_n dX12_settle_50 rfl 0 rfl ?_
    refine a_geti kc13 49 dX12_settle_51 (by decide) rfl w_fieldLink_RainCoverModel_421 (fun v5 => ?_)
    refine a_iload_n dX12_settle_54 rfl 2 rfl ?_
    refine a_iadd dX12_settle_55 ?_
    refine a_sipush (v := 200) dX12_settle_56 (by decide) ?_
    refine a_icmp_le 65 dX12_settle_59 (by decide) (fun c6 => ?_) (fun c6 => ?_)
    · refine a_iconst (v := 0) dX12_settle_65 (by decide) ?_
      refine a_istore_n (lc2 := [(3, .int 0), (0, .ref x0), (1, .int x1), (2, .int x2)]) dX12_settle_66 rfl (by decide) rfl ?_
      refine a_pick (lc2 := [(0, .ref x0), (1, .int x1), (2, .int x2), (3, .int 0)]) [1, 2, 3, 0] rfl ?_
      exact t_X12_settle_b67 h0 N N h x0 x1 x2 0
    · refine a_bipush (v := (-4)) dX12_settle_62 (by decide) ?_
      exact a_iret dX12_settle_64 rfl rfl (by decide) (by decide)
  · refine a_iload_n dX12_settle_21 rfl 2 rfl ?_
    refine a_aload_n dX12_settle_22 rfl 0 rfl ?_
    refine a_iload_n dX12_settle_23 rfl 3 rfl ?_
    refine a_iload_n dX12_settle_24 rfl 1 rfl ?_
    refine a_cV_Pi (r := x0) (ci := 13) (as := [.int x3, .int x1]) (st := [.int x2]) dX12_settle_25 (c_X12_owed l g h N x0 x3 x1) rfl km_X12_owed (hm_X12_owed) rfl (by decide) rfl (fun _ ee => g_X12_owed ee) w_methodLink_RainCoverModel_424 w_instanceMethod_RainCoverModel_owed__II_I w_selects_RainCoverModel_RainCoverModel_owed__II_I_RainCoverModel_owed__II_I ⟨⟨by decide, by decide⟩, ⟨by decide, by decide⟩⟩ (Nat.le_of_ble_eq_true rfl) (fun v7 => ?_)
    refine a_aload_n dX12_settle_28 rfl 0 rfl ?_
    refine a_getr kc13 31 dX12_settle_29 (by decide) rfl w_fieldLink_RainCoverModel_94 (fun v8 => ?_)
    refine a_iload_n dX12_settle_32 rfl 3 rfl ?_
    refine a_iald dX12_settle_33 (fun v9 => ?_)
    refine a_icmp_le 41 dX12_settle_34 (by decide) (fun c10 => ?_) (fun c10 => ?_)
    · refine a_iconst (v := 0) dX12_settle_41 (by decide) ?_
      refine a_pick (lc2 := [(0, .ref x0), (1, .int x1), (3, .int x3)]) [0, 1, 3] rfl ?_
      exact t_X12_settle_b42 h0 N K13 hK13 h x0 x1 x3 0 x2
    · refine a_iconst (v := 1) dX12_settle_37 (by decide) ?_
      refine a_goto 42 dX12_settle_38 (by decide) ?_
      refine a_pick (lc2 := [(0, .ref x0), (1, .int x1), (3, .int x3)]) [0, 1, 3] rfl ?_
      exact t_X12_settle_b42 h0 N K13 hK13 h x0 x1 x3 1 x2
set_option maxRecDepth 100000 in
set_option maxHeartbeats 4000000 in
theorem t_X12_settle_b13 (h0 : AH) (N : Nat) : ∀ (n : Nat) (h : AH) (x0 : Nat) (x1 : Int32) (x2 : Int32) (x3 : Int32) , AO l g M_X12_settle false h0 13 [(0, .ref x0), (1, .int x1), (2, .int x2), (3, .int x3)] [] h 0 0 rSi (f_X12_settle_b13 N  n h x0 x1 x2 x3) := by
  intro n
  induction n with
  | zero => intro h x0 x1 x2 x3; exact a_eq rfl a_none
  | succ n ih => intro h x0 x1 x2 x3; exact a_eq rfl (t_X12_settle_b13_body h0 N  (f_X12_settle_b13 N  n) ih h x0 x1 x2 x3)
end
set_option maxRecDepth 100000 in
set_option maxHeartbeats 4000000 in
theorem c_X12_settle (l : Launch) (g : GG) (h0 : AH) (N : Nat) (p0 : Nat) (p1 : Int32) : CN l g yX12_settle M_X12_settle false [.ref p0, .int p1] h0 rSi (f_X12_settle h0 N p0 p1) := by
  refine CN.of (by decide) rfl (fun hh => by first | rfl | cases hh) (Nat.le_of_ble_eq_true rfl) ?_
  unfold f_X12_settle
  refine a_gd (fun hkd => ?_)
  refine a_iload_n dX12_settle_0 rfl 1 rfl ?_
  refine a_cS_Pi (as := [.int p1]) (st := []) dX12_settle_1 (c_X12_isSeason l g h0 p1) rfl km_X12_isSeason (hm_X12_isSeason) w_methodLink_RainCoverModel_221 w_static_RainCoverModel_isSeason__I_Z ⟨⟨by decide, by decide⟩, ⟨by decide, by decide⟩⟩ (Nat.le_of_ble_eq_true rfl) (fun v1 => ?_)
  refine a_if_ne 9 dX12_settle_4 (by decide) (fun c2 => ?_) (fun c2 => ?_)
  · refine a_iconst (v := (-1)) dX12_settle_7 (by decide) ?_
    exact a_iret dX12_settle_8 rfl rfl (by decide) (by decide)
  · refine a_iconst (v := 0) dX12_settle_9 (by decide) ?_
    refine a_istore_n (lc2 := [(2, .int 0), (0, .ref p0), (1, .int p1)]) dX12_settle_10 rfl (by decide) rfl ?_
    refine a_iconst (v := 0) dX12_settle_11 (by decide) ?_
    refine a_istore_n (lc2 := [(3, .int 0), (2, .int 0), (0, .ref p0), (1, .int p1)]) dX12_settle_12 rfl (by decide) rfl ?_
    refine a_pick (lc2 := [(0, .ref p0), (1, .int p1), (2, .int 0), (3, .int 0)]) [2, 3, 1, 0] rfl ?_
    exact t_X12_settle_b13 h0 N N h0 p0 p1 0 0
theorem dX12_isPayment_0 : decode cX12_isPayment 0 = .ok (.iload_n 1, 1) := by decide +kernel
theorem dX12_isPayment_1 : decode cX12_isPayment 1 = .ok (.iconst 0, 1) := by decide +kernel
theorem dX12_isPayment_2 : decode cX12_isPayment 2 = .ok (.aload_n 0, 1) := by decide +kernel
theorem dX12_isPayment_3 : decode cX12_isPayment 3 = .ok (.getfield 421, 3) := by decide +kernel
theorem dX12_isPayment_6 : decode cX12_isPayment 6 = .ok (.iconst 1, 1) := by decide +kernel
theorem dX12_isPayment_7 : decode cX12_isPayment 7 = .ok (.isub, 1) := by decide +kernel
theorem dX12_isPayment_8 : decode cX12_isPayment 8 = .ok (.invokestatic 204, 3) := by decide +kernel
theorem dX12_isPayment_11 : decode cX12_isPayment 11 = .ok (.ireturn, 1) := by decide +kernel
abbrev M_X12_isPayment : MI := (RX12, cX12_isPayment, 2, (some .boolean), ({ frames := 1, cells := 0, slots := 0, locals := 22 } : Room), 0, 0, false)
def f_X12_isPayment (h : AH) (p0 : Nat) (p1 : Int32) : Option Int32 := if kd h p0 = 13 + 1 then (xgi h p0 13 49).bind fun v1 => (f_X12_in h p1 0 (v1 - 1)).bind fun v2 => (if v2 = 0 ∨ v2 = 1 then some v2 else none) else none
theorem g_X12_isPayment {h : AH} {p0 : Nat} {p1 : Int32} {x : Int32} (e : f_X12_isPayment h p0 p1 = some x) : kd h p0 = 13 + 1 := by
  unfold f_X12_isPayment at e
  by_cases hk : kd h p0 = 13 + 1
  · exact hk
  · rw [if_neg hk] at e
    cases e
theorem km_X12_isPayment : KM yX12_isPayment M_X12_isPayment 1 := ⟨in_tb 1796 (by decide +kernel) rfl, in_tb 9 (by decide +kernel) rfl, by decide +kernel, rfl, rfl⟩
theorem hm_X12_isPayment : M_X12_isPayment.2.2.2.2.2.1 = 0 ∧ M_X12_isPayment.2.2.2.2.2.2.1 = 0 := ⟨rfl, rfl⟩
section
variable {l : Launch} {g : GG}
end
set_option maxRecDepth 100000 in
set_option maxHeartbeats 4000000 in
theorem c_X12_isPayment (l : Launch) (g : GG) (h : AH) (p0 : Nat) (p1 : Int32) : CN l g yX12_isPayment M_X12_isPayment false [.ref p0, .int p1] h ((rPi h)) (f_X12_isPayment h p0 p1) := by
  refine CN.of (by decide) rfl (fun hh => by first | rfl | cases hh) (Nat.le_of_ble_eq_true rfl) ?_
  unfold f_X12_isPayment
  refine a_gd (fun hkd => ?_)
  refine a_iload_n dX12_isPayment_0 rfl 1 rfl ?_
  refine a_iconst (v := 0) dX12_isPayment_1 (by decide) ?_
  refine a_aload_n dX12_isPayment_2 rfl 0 rfl ?_
  refine a_geti kc13 49 dX12_isPayment_3 (by decide) rfl w_fieldLink_RainCoverModel_421 (fun v1 => ?_)
  refine a_iconst (v := 1) dX12_isPayment_6 (by decide) ?_
  refine a_isub dX12_isPayment_7 ?_
  refine a_cS_Pi (as := [.int p1, .int 0, .int (v1 - 1)]) (st := []) dX12_isPayment_8 (c_X12_in l g h p1 0 (v1 - 1)) rfl km_X12_in (hm_X12_in) w_methodLink_RainCoverModel_204 w_static_RainCoverModel_in__III_Z ⟨⟨by decide, by decide⟩, ⟨by decide, by decide⟩⟩ (Nat.le_of_ble_eq_true rfl) (fun v2 => ?_)
  exact a_gd (fun c3 => a_zret dX12_isPayment_11 rfl c3 rfl (by decide) (by decide))
theorem dX12_payment_0 : decode cX12_payment 0 = .ok (.aload_n 0, 1) := by decide +kernel
theorem dX12_payment_1 : decode cX12_payment 1 = .ok (.iload_n 1, 1) := by decide +kernel
theorem dX12_payment_2 : decode cX12_payment 2 = .ok (.invokevirtual 431, 3) := by decide +kernel
theorem dX12_payment_5 : decode cX12_payment 5 = .ok (.ifCond .ne 6, 3) := by decide +kernel
theorem dX12_payment_8 : decode cX12_payment 8 = .ok (.bipush (-5), 2) := by decide +kernel
theorem dX12_payment_10 : decode cX12_payment 10 = .ok (.ireturn, 1) := by decide +kernel
theorem dX12_payment_11 : decode cX12_payment 11 = .ok (.iload_n 2, 1) := by decide +kernel
theorem dX12_payment_12 : decode cX12_payment 12 = .ok (.tableswitch 60 0 3 #[32, 39, 46, 53], 32) := by decide +kernel
theorem dX12_payment_44 : decode cX12_payment 44 = .ok (.aload_n 0, 1) := by decide +kernel
theorem dX12_payment_45 : decode cX12_payment 45 = .ok (.getfield 139, 3) := by decide +kernel
theorem dX12_payment_48 : decode cX12_payment 48 = .ok (.iload_n 1, 1) := by decide +kernel
theorem dX12_payment_49 : decode cX12_payment 49 = .ok (.iaload, 1) := by decide +kernel
theorem dX12_payment_50 : decode cX12_payment 50 = .ok (.ireturn, 1) := by decide +kernel
theorem dX12_payment_51 : decode cX12_payment 51 = .ok (.aload_n 0, 1) := by decide +kernel
theorem dX12_payment_52 : decode cX12_payment 52 = .ok (.getfield 142, 3) := by decide +kernel
theorem dX12_payment_55 : decode cX12_payment 55 = .ok (.iload_n 1, 1) := by decide +kernel
theorem dX12_payment_56 : decode cX12_payment 56 = .ok (.iaload, 1) := by decide +kernel
theorem dX12_payment_57 : decode cX12_payment 57 = .ok (.ireturn, 1) := by decide +kernel
theorem dX12_payment_58 : decode cX12_payment 58 = .ok (.aload_n 0, 1) := by decide +kernel
theorem dX12_payment_59 : decode cX12_payment 59 = .ok (.getfield 145, 3) := by decide +kernel
theorem dX12_payment_62 : decode cX12_payment 62 = .ok (.iload_n 1, 1) := by decide +kernel
theorem dX12_payment_63 : decode cX12_payment 63 = .ok (.iaload, 1) := by decide +kernel
theorem dX12_payment_64 : decode cX12_payment 64 = .ok (.ireturn, 1) := by decide +kernel
theorem dX12_payment_65 : decode cX12_payment 65 = .ok (.aload_n 0, 1) := by decide +kernel
theorem dX12_payment_66 : decode cX12_payment 66 = .ok (.getfield 148, 3) := by decide +kernel
theorem dX12_payment_69 : decode cX12_payment 69 = .ok (.iload_n 1, 1) := by decide +kernel
theorem dX12_payment_70 : decode cX12_payment 70 = .ok (.iaload, 1) := by decide +kernel
theorem dX12_payment_71 : decode cX12_payment 71 = .ok (.ireturn, 1) := by decide +kernel
theorem dX12_payment_72 : decode cX12_payment 72 = .ok (.bipush (-5), 2) := by decide +kernel
theorem dX12_payment_74 : decode cX12_payment 74 = .ok (.ireturn, 1) := by decide +kernel
abbrev M_X12_payment : MI := (RX12, cX12_payment, 3, (some .int), ({ frames := 2, cells := 0, slots := 0, locals := 43 } : Room), 0, 0, false)
def f_X12_payment (h : AH) (p0 : Nat) (p1 : Int32) (p2 : Int32) : Option Int32 := if kd h p0 = 13 + 1 then (f_X12_isPayment h p0 p1).bind fun v1 => (if v1 = 0 then some (-5) else (if p2 = 0 then (xgr h p0 13 50).bind fun v4 => (xia h v4 p1).bind fun v5 => some v5 else (if p2 = 1 then (xgr h p0 13 51).bind fun v7 => (xia h v7 p1).bind fun v8 => some v8 else (if p2 = 2 then (xgr h p0 13 52).bind fun v10 => (xia h v10 p1).bind fun v11 => some v11 else (if p2 = 3 then (xgr h p0 13 53).bind fun v13 => (xia h v13 p1).bind fun v14 => some v14 else some (-5)))))) else none
theorem g_X12_payment {h : AH} {p0 : Nat} {p1 : Int32} {p2 : Int32} {x : Int32} (e : f_X12_payment h p0 p1 p2 = some x) : kd h p0 = 13 + 1 := by
  unfold f_X12_payment at e
  by_cases hk : kd h p0 = 13 + 1
  · exact hk
  · rw [if_neg hk] at e
    cases e
theorem km_X12_payment : KM yX12_payment M_X12_payment 2 := ⟨in_tb 1792 (by decide +kernel) rfl, in_tb 9 (by decide +kernel) rfl, by decide +kernel, rfl, rfl⟩
theorem hm_X12_payment : M_X12_payment.2.2.2.2.2.1 = 0 ∧ M_X12_payment.2.2.2.2.2.2.1 = 0 := ⟨rfl, rfl⟩
section
variable {l : Launch} {g : GG}
end
set_option maxRecDepth 100000 in
set_option maxHeartbeats 4000000 in
theorem c_X12_payment (l : Launch) (g : GG) (h : AH) (p0 : Nat) (p1 : Int32) (p2 : Int32) : CN l g yX12_payment M_X12_payment false [.ref p0, .int p1, .int p2] h ((rPi h)) (f_X12_payment h p0 p1 p2) := by
  refine CN.of (by decide) rfl (fun hh => by first | rfl | cases hh) (Nat.le_of_ble_eq_true rfl) ?_
  unfold f_X12_payment
  refine a_gd (fun hkd => ?_)
  refine a_aload_n dX12_payment_0 rfl 0 rfl ?_
  refine a_iload_n dX12_payment_1 rfl 1 rfl ?_
  refine a_cV_Pi (r := p0) (ci := 13) (as := [.int p1]) (st := []) dX12_payment_2 (c_X12_isPayment l g h p0 p1) rfl km_X12_isPayment (hm_X12_isPayment) rfl (by decide) rfl (fun _ ee => g_X12_isPayment ee) w_methodLink_RainCoverModel_431 w_instanceMethod_RainCoverModel_isPayment__I_Z w_selects_RainCoverModel_RainCoverModel_isPayment__I_Z_RainCoverModel_isPayment__I_Z ⟨⟨by decide, by decide⟩, ⟨by decide, by decide⟩⟩ (Nat.le_of_ble_eq_true rfl) (fun v1 => ?_)
  refine a_if_ne 11 dX12_payment_5 (by decide) (fun c2 => ?_) (fun c2 => ?_)
  · refine a_bipush (v := (-5)) dX12_payment_8 (by decide) ?_
    exact a_iret dX12_payment_10 rfl rfl (by decide) (by decide)
  · refine a_iload_n dX12_payment_11 rfl 2 rfl ?_
    refine a_swt (v := 0) 44 dX12_payment_12 (by decide) (by decide) (fun c3 => ?_) (fun c3 => ?_)
    · refine a_aload_n dX12_payment_44 rfl 0 rfl ?_
      refine a_getr kc13 50 dX12_payment_45 (by decide) rfl w_fieldLink_RainCoverModel_139 (fun v4 => ?_)
      refine a_iload_n dX12_payment_48 rfl 1 rfl ?_
      refine a_iald dX12_payment_49 (fun v5 => ?_)
      exact a_iret dX12_payment_50 rfl rfl (by decide) (by decide)
    refine a_swt (v := 1) 51 dX12_payment_12 (by decide) (by decide) (fun c6 => ?_) (fun c6 => ?_)
    · refine a_aload_n dX12_payment_51 rfl 0 rfl ?_
      refine a_getr kc13 51 dX12_payment_52 (by decide) rfl w_fieldLink_RainCoverModel_142 (fun v7 => ?_)
      refine a_iload_n dX12_payment_55 rfl 1 rfl ?_
      refine a_iald dX12_payment_56 (fun v8 => ?_)
      exact a_iret dX12_payment_57 rfl rfl (by decide) (by decide)
    refine a_swt (v := 2) 58 dX12_payment_12 (by decide) (by decide) (fun c9 => ?_) (fun c9 => ?_)
    · refine a_aload_n dX12_payment_58 rfl 0 rfl ?_
      refine a_getr kc13 52 dX12_payment_59 (by decide) rfl w_fieldLink_RainCoverModel_145 (fun v10 => ?_)
      refine a_iload_n dX12_payment_62 rfl 1 rfl ?_
      refine a_iald dX12_payment_63 (fun v11 => ?_)
      exact a_iret dX12_payment_64 rfl rfl (by decide) (by decide)
    refine a_swt (v := 3) 65 dX12_payment_12 (by decide) (by decide) (fun c12 => ?_) (fun c12 => ?_)
    · refine a_aload_n dX12_payment_65 rfl 0 rfl ?_
      refine a_getr kc13 53 dX12_payment_66 (by decide) rfl w_fieldLink_RainCoverModel_148 (fun v13 => ?_)
      refine a_iload_n dX12_payment_69 rfl 1 rfl ?_
      refine a_iald dX12_payment_70 (fun v14 => ?_)
      exact a_iret dX12_payment_71 rfl rfl (by decide) (by decide)
    refine a_swtd (vs := [0, 1, 2, 3]) 72 dX12_payment_12 (by decide) (by decide) (List.forall_mem_cons.mpr ⟨c3, List.forall_mem_cons.mpr ⟨c6, List.forall_mem_cons.mpr ⟨c9, List.forall_mem_cons.mpr ⟨c12, fun _ hh => absurd hh List.not_mem_nil⟩⟩⟩⟩) ?_
    refine a_bipush (v := (-5)) dX12_payment_72 (by decide) ?_
    exact a_iret dX12_payment_74 rfl rfl (by decide) (by decide)
theorem dX12_fund_0 : decode cX12_fund 0 = .ok (.aload_n 0, 1) := by decide +kernel
theorem dX12_fund_1 : decode cX12_fund 1 = .ok (.getfield 434, 3) := by decide +kernel
theorem dX12_fund_4 : decode cX12_fund 4 = .ok (.i2l, 1) := by decide +kernel
theorem dX12_fund_5 : decode cX12_fund 5 = .ok (.iload_n 1, 1) := by decide +kernel
theorem dX12_fund_6 : decode cX12_fund 6 = .ok (.i2l, 1) := by decide +kernel
theorem dX12_fund_7 : decode cX12_fund 7 = .ok (.ladd, 1) := by decide +kernel
theorem dX12_fund_8 : decode cX12_fund 8 = .ok (.lstore_n 2, 1) := by decide +kernel
theorem dX12_fund_9 : decode cX12_fund 9 = .ok (.iload_n 1, 1) := by decide +kernel
theorem dX12_fund_10 : decode cX12_fund 10 = .ok (.ldc_w 437, 3) := by decide +kernel
theorem dX12_fund_13 : decode cX12_fund 13 = .ok (.ldc_w 438, 3) := by decide +kernel
theorem dX12_fund_16 : decode cX12_fund 16 = .ok (.invokestatic 204, 3) := by decide +kernel
theorem dX12_fund_19 : decode cX12_fund 19 = .ok (.ifCond .eq 17, 3) := by decide +kernel
theorem dX12_fund_22 : decode cX12_fund 22 = .ok (.lload_n 2, 1) := by decide +kernel
theorem dX12_fund_23 : decode cX12_fund 23 = .ok (.lconst 0, 1) := by decide +kernel
theorem dX12_fund_24 : decode cX12_fund 24 = .ok (.lcmp, 1) := by decide +kernel
theorem dX12_fund_25 : decode cX12_fund 25 = .ok (.ifCond .lt 11, 3) := by decide +kernel
theorem dX12_fund_28 : decode cX12_fund 28 = .ok (.lload_n 2, 1) := by decide +kernel
theorem dX12_fund_29 : decode cX12_fund 29 = .ok (.ldc2_w 415, 3) := by decide +kernel
theorem dX12_fund_32 : decode cX12_fund 32 = .ok (.lcmp, 1) := by decide +kernel
theorem dX12_fund_33 : decode cX12_fund 33 = .ok (.ifCond .le 6, 3) := by decide +kernel
theorem dX12_fund_36 : decode cX12_fund 36 = .ok (.bipush (-2), 2) := by decide +kernel
theorem dX12_fund_38 : decode cX12_fund 38 = .ok (.ireturn, 1) := by decide +kernel
theorem dX12_fund_39 : decode cX12_fund 39 = .ok (.aload_n 0, 1) := by decide +kernel
theorem dX12_fund_40 : decode cX12_fund 40 = .ok (.dup, 1) := by decide +kernel
theorem dX12_fund_41 : decode cX12_fund 41 = .ok (.getfield 434, 3) := by decide +kernel
theorem dX12_fund_44 : decode cX12_fund 44 = .ok (.iload_n 1, 1) := by decide +kernel
theorem dX12_fund_45 : decode cX12_fund 45 = .ok (.iadd, 1) := by decide +kernel
theorem dX12_fund_46 : decode cX12_fund 46 = .ok (.putfield 434, 3) := by decide +kernel
theorem dX12_fund_49 : decode cX12_fund 49 = .ok (.aload_n 0, 1) := by decide +kernel
theorem dX12_fund_50 : decode cX12_fund 50 = .ok (.getfield 434, 3) := by decide +kernel
theorem dX12_fund_53 : decode cX12_fund 53 = .ok (.ireturn, 1) := by decide +kernel
abbrev M_X12_fund : MI := (RX12, cX12_fund, 4, (some .int), ({ frames := 1, cells := 0, slots := 0, locals := 22 } : Room), 0, 0, false)
def f_X12_fund (h0 : AH) (p0 : Nat) (p1 : Int32) : Option (Int32 × AH) := if kd h0 p0 = 13 + 1 then (xgi h0 p0 13 54).bind fun v1 => (f_X12_in h0 p1 (-1000000000) 1000000000).bind fun v2 => (if v2 = 0 then some ((-2), h0) else (if (lg_cmp ((v1 : Int32).toInt64 + (p1 : Int32).toInt64) 0) < 0 then some ((-2), h0) else (if (lg_cmp ((v1 : Int32).toInt64 + (p1 : Int32).toInt64) 2000000000) ≤ 0 then (xgi h0 p0 13 54).bind fun v6 => (xpi h0 p0 13 54 (v6 + p1)).bind fun h7 => (xgi h7 p0 13 54).bind fun v8 => some (v8, h7) else some ((-2), h0)))) else none
theorem g_X12_fund {h0 : AH} {p0 : Nat} {p1 : Int32} {x : (Int32 × AH)} (e : f_X12_fund h0 p0 p1 = some x) : kd h0 p0 = 13 + 1 := by
  unfold f_X12_fund at e
  by_cases hk : kd h0 p0 = 13 + 1
  · exact hk
  · rw [if_neg hk] at e
    cases e
theorem km_X12_fund : KM yX12_fund M_X12_fund 1 := ⟨in_tb 1800 (by decide +kernel) rfl, in_tb 9 (by decide +kernel) rfl, by decide +kernel, rfl, rfl⟩
theorem hm_X12_fund : M_X12_fund.2.2.2.2.2.1 = 0 ∧ M_X12_fund.2.2.2.2.2.2.1 = 0 := ⟨rfl, rfl⟩
section
variable {l : Launch} {g : GG}
end
set_option maxRecDepth 100000 in
set_option maxHeartbeats 4000000 in
theorem c_X12_fund (l : Launch) (g : GG) (h0 : AH) (p0 : Nat) (p1 : Int32) : CN l g yX12_fund M_X12_fund false [.ref p0, .int p1] h0 rSi (f_X12_fund h0 p0 p1) := by
  refine CN.of (by decide) rfl (fun hh => by first | rfl | cases hh) (Nat.le_of_ble_eq_true rfl) ?_
  unfold f_X12_fund
  refine a_gd (fun hkd => ?_)
  refine a_aload_n dX12_fund_0 rfl 0 rfl ?_
  refine a_geti kc13 54 dX12_fund_1 (by decide) rfl w_fieldLink_RainCoverModel_434 (fun v1 => ?_)
  refine a_i2l dX12_fund_4 ?_
  refine a_iload_n dX12_fund_5 rfl 1 rfl ?_
  refine a_i2l dX12_fund_6 ?_
  refine a_ladd dX12_fund_7 ?_
  refine a_lstore_n (lc2 := [(2, .long ((v1 : Int32).toInt64 + (p1 : Int32).toInt64)), (0, .ref p0), (1, .int p1)]) dX12_fund_8 rfl (by decide) rfl ?_
  refine a_iload_n dX12_fund_9 rfl 2 rfl ?_
  refine a_ldcw (v := (-1000000000)) dX12_fund_10 w_constant_RainCoverModel_437 ?_
  refine a_ldcw (v := 1000000000) dX12_fund_13 w_constant_RainCoverModel_438 ?_
  refine a_cS_Pi (as := [.int p1, .int (-1000000000), .int 1000000000]) (st := []) dX12_fund_16 (c_X12_in l g h0 p1 (-1000000000) 1000000000) rfl km_X12_in (hm_X12_in) w_methodLink_RainCoverModel_204 w_static_RainCoverModel_in__III_Z ⟨⟨by decide, by decide⟩, ⟨by decide, by decide⟩⟩ (Nat.le_of_ble_eq_true rfl) (fun v2 => ?_)
  refine a_if_eq 36 dX12_fund_19 (by decide) (fun c3 => ?_) (fun c3 => ?_)
  · refine a_bipush (v := (-2)) dX12_fund_36 (by decide) ?_
    exact a_iret dX12_fund_38 rfl rfl (by decide) (by decide)
  · refine a_lload_n dX12_fund_22 rfl 0 rfl ?_
    refine a_lconst (v := 0) dX12_fund_23 (by decide) ?_
    refine a_lcmp dX12_fund_24 ?_
    refine a_if_lt 36 dX12_fund_25 (by decide) (fun c4 => ?_) (fun c4 => ?_)
    · refine a_bipush (v := (-2)) dX12_fund_36 (by decide) ?_
      exact a_iret dX12_fund_38 rfl rfl (by decide) (by decide)
    · refine a_lload_n dX12_fund_28 rfl 0 rfl ?_
      refine a_ldc2 (v := 2000000000) dX12_fund_29 w_constantLong_RainCoverModel_415 ?_
      refine a_lcmp dX12_fund_32 ?_
      refine a_if_le 39 dX12_fund_33 (by decide) (fun c5 => ?_) (fun c5 => ?_)
      · refine a_aload_n dX12_fund_39 rfl 1 rfl ?_
        refine a_dup dX12_fund_40 rfl ?_
        refine a_geti kc13 54 dX12_fund_41 (by decide) rfl w_fieldLink_RainCoverModel_434 (fun v6 => ?_)
        refine a_iload_n dX12_fund_44 rfl 2 rfl ?_
        refine a_iadd dX12_fund_45 ?_
        refine a_puti kc13 54 dX12_fund_46 (by decide) rfl w_fieldLink_RainCoverModel_434 rfl rfl (fun h7 => ?_)
        refine a_aload_n dX12_fund_49 rfl 1 rfl ?_
        refine a_geti kc13 54 dX12_fund_50 (by decide) rfl w_fieldLink_RainCoverModel_434 (fun v8 => ?_)
        exact a_iret dX12_fund_53 rfl rfl (by decide) (by decide)
      · refine a_bipush (v := (-2)) dX12_fund_36 (by decide) ?_
        exact a_iret dX12_fund_38 rfl rfl (by decide) (by decide)
theorem dX12_send_0 : decode cX12_send 0 = .ok (.aload_n 0, 1) := by decide +kernel
theorem dX12_send_1 : decode cX12_send 1 = .ok (.iload_n 1, 1) := by decide +kernel
theorem dX12_send_2 : decode cX12_send 2 = .ok (.invokevirtual 431, 3) := by decide +kernel
theorem dX12_send_5 : decode cX12_send 5 = .ok (.ifCond .ne 5, 3) := by decide +kernel
theorem dX12_send_8 : decode cX12_send 8 = .ok (.iconst (-1), 1) := by decide +kernel
theorem dX12_send_9 : decode cX12_send 9 = .ok (.ireturn, 1) := by decide +kernel
theorem dX12_send_10 : decode cX12_send 10 = .ok (.aload_n 0, 1) := by decide +kernel
theorem dX12_send_11 : decode cX12_send 11 = .ok (.getfield 148, 3) := by decide +kernel
theorem dX12_send_14 : decode cX12_send 14 = .ok (.iload_n 1, 1) := by decide +kernel
theorem dX12_send_15 : decode cX12_send 15 = .ok (.iaload, 1) := by decide +kernel
theorem dX12_send_16 : decode cX12_send 16 = .ok (.ifCond .eq 13, 3) := by decide +kernel
theorem dX12_send_19 : decode cX12_send 19 = .ok (.aload_n 0, 1) := by decide +kernel
theorem dX12_send_20 : decode cX12_send 20 = .ok (.getfield 148, 3) := by decide +kernel
theorem dX12_send_23 : decode cX12_send 23 = .ok (.iload_n 1, 1) := by decide +kernel
theorem dX12_send_24 : decode cX12_send 24 = .ok (.iaload, 1) := by decide +kernel
theorem dX12_send_25 : decode cX12_send 25 = .ok (.iconst 2, 1) := by decide +kernel
theorem dX12_send_26 : decode cX12_send 26 = .ok (.if_icmp .ne 16, 3) := by decide +kernel
theorem dX12_send_29 : decode cX12_send 29 = .ok (.aload_n 0, 1) := by decide +kernel
theorem dX12_send_30 : decode cX12_send 30 = .ok (.getfield 145, 3) := by decide +kernel
theorem dX12_send_33 : decode cX12_send 33 = .ok (.iload_n 1, 1) := by decide +kernel
theorem dX12_send_34 : decode cX12_send 34 = .ok (.iaload, 1) := by decide +kernel
theorem dX12_send_35 : decode cX12_send 35 = .ok (.aload_n 0, 1) := by decide +kernel
theorem dX12_send_36 : decode cX12_send 36 = .ok (.getfield 434, 3) := by decide +kernel
theorem dX12_send_39 : decode cX12_send 39 = .ok (.if_icmp .le 6, 3) := by decide +kernel
theorem dX12_send_42 : decode cX12_send 42 = .ok (.bipush (-3), 2) := by decide +kernel
theorem dX12_send_44 : decode cX12_send 44 = .ok (.ireturn, 1) := by decide +kernel
theorem dX12_send_45 : decode cX12_send 45 = .ok (.aload_n 0, 1) := by decide +kernel
theorem dX12_send_46 : decode cX12_send 46 = .ok (.dup, 1) := by decide +kernel
theorem dX12_send_47 : decode cX12_send 47 = .ok (.getfield 434, 3) := by decide +kernel
theorem dX12_send_50 : decode cX12_send 50 = .ok (.aload_n 0, 1) := by decide +kernel
theorem dX12_send_51 : decode cX12_send 51 = .ok (.getfield 145, 3) := by decide +kernel
theorem dX12_send_54 : decode cX12_send 54 = .ok (.iload_n 1, 1) := by decide +kernel
theorem dX12_send_55 : decode cX12_send 55 = .ok (.iaload, 1) := by decide +kernel
theorem dX12_send_56 : decode cX12_send 56 = .ok (.isub, 1) := by decide +kernel
theorem dX12_send_57 : decode cX12_send 57 = .ok (.putfield 434, 3) := by decide +kernel
theorem dX12_send_60 : decode cX12_send 60 = .ok (.aload_n 0, 1) := by decide +kernel
theorem dX12_send_61 : decode cX12_send 61 = .ok (.getfield 148, 3) := by decide +kernel
theorem dX12_send_64 : decode cX12_send 64 = .ok (.iload_n 1, 1) := by decide +kernel
theorem dX12_send_65 : decode cX12_send 65 = .ok (.iconst 1, 1) := by decide +kernel
theorem dX12_send_66 : decode cX12_send 66 = .ok (.iastore, 1) := by decide +kernel
theorem dX12_send_67 : decode cX12_send 67 = .ok (.iconst 1, 1) := by decide +kernel
theorem dX12_send_68 : decode cX12_send 68 = .ok (.ireturn, 1) := by decide +kernel
abbrev M_X12_send : MI := (RX12, cX12_send, 2, (some .int), ({ frames := 2, cells := 0, slots := 0, locals := 43 } : Room), 0, 0, false)
def f_X12_send_b29 (h : AH) (x0 : Nat) (x1 : Int32) : Option (Int32 × AH) := (xgr h x0 13 52).bind fun v9 => (xia h v9 x1).bind fun v10 => (xgi h x0 13 54).bind fun v11 => (if v10 ≤ v11 then (xgi h x0 13 54).bind fun v13 => (xgr h x0 13 52).bind fun v14 => (xia h v14 x1).bind fun v15 => (xpi h x0 13 54 (v13 - v15)).bind fun h16 => (xgr h16 x0 13 53).bind fun v17 => (xis h16 v17 x1 1).bind fun h18 => some (1, h18) else some ((-3), h))
def f_X12_send (h0 : AH) (p0 : Nat) (p1 : Int32) : Option (Int32 × AH) := if kd h0 p0 = 13 + 1 then (f_X12_isPayment h0 p0 p1).bind fun v1 => (if v1 = 0 then some ((-1), h0) else (xgr h0 p0 13 53).bind fun v3 => (xia h0 v3 p1).bind fun v4 => (if v4 = 0 then f_X12_send_b29 h0 p0 p1 else (xgr h0 p0 13 53).bind fun v6 => (xia h0 v6 p1).bind fun v7 => (if v7 = 2 then f_X12_send_b29 h0 p0 p1 else some ((-3), h0)))) else none
theorem g_X12_send {h0 : AH} {p0 : Nat} {p1 : Int32} {x : (Int32 × AH)} (e : f_X12_send h0 p0 p1 = some x) : kd h0 p0 = 13 + 1 := by
  unfold f_X12_send at e
  by_cases hk : kd h0 p0 = 13 + 1
  · exact hk
  · rw [if_neg hk] at e
    cases e
theorem km_X12_send : KM yX12_send M_X12_send 1 := ⟨in_tb 1806 (by decide +kernel) rfl, in_tb 9 (by decide +kernel) rfl, by decide +kernel, rfl, rfl⟩
theorem hm_X12_send : M_X12_send.2.2.2.2.2.1 = 0 ∧ M_X12_send.2.2.2.2.2.2.1 = 0 := ⟨rfl, rfl⟩
section
variable {l : Launch} {g : GG}
set_option maxRecDepth 100000 in
set_option maxHeartbeats 4000000 in
theorem t_X12_send_b29 (h0 : AH) (h : AH) (x0 : Nat) (x1 : Int32) : AO l g M_X12_send false h0 29 [(0, .ref x0), (1, .int x1)] [] h 0 0 rSi (f_X12_send_b29  h x0 x1) := by
  unfold f_X12_send_b29
  refine a_aload_n dX12_send_29 rfl 0 rfl ?_
  refine a_getr kc13 52 dX12_send_30 (by decide) rfl w_fieldLink_RainCoverModel_145 (fun v9 => ?_)
  refine a_iload_n dX12_send_33 rfl 1 rfl ?_
  refine a_iald dX12_send_34 (fun v10 => ?_)
  refine a_aload_n dX12_send_35 rfl 0 rfl ?_
  refine a_geti kc13 54 dX12_send_36 (by decide) rfl w_fieldLink_RainCoverModel_434 (fun v11 => ?_)
  refine a_icmp_le 45 dX12_send_39 (by decide) (fun c12 => ?_) (fun c12 => ?_)
  · refine a_aload_n dX12_send_45 rfl 0 rfl ?_
    refine a_dup dX12_send_46 rfl ?_
    refine a_geti kc13 54 dX12_send_47 (by decide) rfl w_fieldLink_RainCoverModel_434 (fun v13 => ?_)
    refine a_aload_n dX12_send_50 rfl 0 rfl ?_
    refine a_getr kc13 52 dX12_send_51 (by decide) rfl w_fieldLink_RainCoverModel_145 (fun v14 => ?_)
    refine a_iload_n dX12_send_54 rfl 1 rfl ?_
    refine a_iald dX12_send_55 (fun v15 => ?_)
    refine a_isub dX12_send_56 ?_
    refine a_puti kc13 54 dX12_send_57 (by decide) rfl w_fieldLink_RainCoverModel_434 rfl rfl (fun h16 => ?_)
    refine a_aload_n dX12_send_60 rfl 0 rfl ?_
    refine a_getr kc13 53 dX12_send_61 (by decide) rfl w_fieldLink_RainCoverModel_148 (fun v17 => ?_)
    refine a_iload_n dX12_send_64 rfl 1 rfl ?_
    refine a_iconst (v := 1) dX12_send_65 (by decide) ?_
    refine a_iast dX12_send_66 (fun h18 => ?_)
    refine a_iconst (v := 1) dX12_send_67 (by decide) ?_
    exact a_iret dX12_send_68 rfl rfl (by decide) (by decide)
  · refine a_bipush (v := (-3)) dX12_send_42 (by decide) ?_
    exact a_iret dX12_send_44 rfl rfl (by decide) (by decide)
end
set_option maxRecDepth 100000 in
set_option maxHeartbeats 4000000 in
theorem c_X12_send (l : Launch) (g : GG) (h0 : AH) (p0 : Nat) (p1 : Int32) : CN l g yX12_send M_X12_send false [.ref p0, .int p1] h0 rSi (f_X12_send h0 p0 p1) := by
  refine CN.of (by decide) rfl (fun hh => by first | rfl | cases hh) (Nat.le_of_ble_eq_true rfl) ?_
  unfold f_X12_send
  refine a_gd (fun hkd => ?_)
  refine a_aload_n dX12_send_0 rfl 0 rfl ?_
  refine a_iload_n dX12_send_1 rfl 1 rfl ?_
  refine a_cV_Pi (r := p0) (ci := 13) (as := [.int p1]) (st := []) dX12_send_2 (c_X12_isPayment l g h0 p0 p1) rfl km_X12_isPayment (hm_X12_isPayment) rfl (by decide) rfl (fun _ ee => g_X12_isPayment ee) w_methodLink_RainCoverModel_431 w_instanceMethod_RainCoverModel_isPayment__I_Z w_selects_RainCoverModel_RainCoverModel_isPayment__I_Z_RainCoverModel_isPayment__I_Z ⟨⟨by decide, by decide⟩, ⟨by decide, by decide⟩⟩ (Nat.le_of_ble_eq_true rfl) (fun v1 => ?_)
  refine a_if_ne 10 dX12_send_5 (by decide) (fun c2 => ?_) (fun c2 => ?_)
  · refine a_iconst (v := (-1)) dX12_send_8 (by decide) ?_
    exact a_iret dX12_send_9 rfl rfl (by decide) (by decide)
  · refine a_aload_n dX12_send_10 rfl 0 rfl ?_
    refine a_getr kc13 53 dX12_send_11 (by decide) rfl w_fieldLink_RainCoverModel_148 (fun v3 => ?_)
    refine a_iload_n dX12_send_14 rfl 1 rfl ?_
    refine a_iald dX12_send_15 (fun v4 => ?_)
    refine a_if_eq 29 dX12_send_16 (by decide) (fun c5 => ?_) (fun c5 => ?_)
    · exact t_X12_send_b29 h0 h0 p0 p1
    · refine a_aload_n dX12_send_19 rfl 0 rfl ?_
      refine a_getr kc13 53 dX12_send_20 (by decide) rfl w_fieldLink_RainCoverModel_148 (fun v6 => ?_)
      refine a_iload_n dX12_send_23 rfl 1 rfl ?_
      refine a_iald dX12_send_24 (fun v7 => ?_)
      refine a_iconst (v := 2) dX12_send_25 (by decide) ?_
      refine a_icmp_ne 42 dX12_send_26 (by decide) (fun c8 => ?_) (fun c8 => ?_)
      · exact t_X12_send_b29 h0 h0 p0 p1
      · refine a_bipush (v := (-3)) dX12_send_42 (by decide) ?_
        exact a_iret dX12_send_44 rfl rfl (by decide) (by decide)
