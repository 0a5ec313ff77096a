theorem dX12_arrive_0 : decode cX12_arrive 0 = .ok (.aload_n 0, 1) := by decide +kernel
theorem dX12_arrive_1 : decode cX12_arrive 1 = .ok (.iload_n 1, 1) := by decide +kernel
theorem dX12_arrive_2 : decode cX12_arrive 2 = .ok (.invokevirtual 431, 3) := by decide +kernel
theorem dX12_arrive_5 : decode cX12_arrive 5 = .ok (.ifCond .ne 5, 3) := by decide +kernel
theorem dX12_arrive_8 : decode cX12_arrive 8 = .ok (.iconst (-1), 1) := by decide +kernel
theorem dX12_arrive_9 : decode cX12_arrive 9 = .ok (.ireturn, 1) := by decide +kernel
theorem dX12_arrive_10 : decode cX12_arrive 10 = .ok (.iload_n 2, 1) := by decide +kernel
theorem dX12_arrive_11 : decode cX12_arrive 11 = .ok (.iconst 0, 1) := by decide +kernel
theorem dX12_arrive_12 : decode cX12_arrive 12 = .ok (.iconst 1, 1) := by decide +kernel
theorem dX12_arrive_13 : decode cX12_arrive 13 = .ok (.invokestatic 204, 3) := by decide +kernel
theorem dX12_arrive_16 : decode cX12_arrive 16 = .ok (.ifCond .ne 6, 3) := by decide +kernel
theorem dX12_arrive_19 : decode cX12_arrive 19 = .ok (.bipush (-2), 2) := by decide +kernel
theorem dX12_arrive_21 : decode cX12_arrive 21 = .ok (.ireturn, 1) := by decide +kernel
theorem dX12_arrive_22 : decode cX12_arrive 22 = .ok (.aload_n 0, 1) := by decide +kernel
theorem dX12_arrive_23 : decode cX12_arrive 23 = .ok (.getfield 148, 3) := by decide +kernel
theorem dX12_arrive_26 : decode cX12_arrive 26 = .ok (.iload_n 1, 1) := by decide +kernel
theorem dX12_arrive_27 : decode cX12_arrive 27 = .ok (.iaload, 1) := by decide +kernel
theorem dX12_arrive_28 : decode cX12_arrive 28 = .ok (.iconst 1, 1) := by decide +kernel
theorem dX12_arrive_29 : decode cX12_arrive 29 = .ok (.if_icmp .ne 28, 3) := by decide +kernel
theorem dX12_arrive_32 : decode cX12_arrive 32 = .ok (.iload_n 2, 1) := by decide +kernel
theorem dX12_arrive_33 : decode cX12_arrive 33 = .ok (.iconst 1, 1) := by decide +kernel
theorem dX12_arrive_34 : decode cX12_arrive 34 = .ok (.if_icmp .ne 26, 3) := by decide +kernel
theorem dX12_arrive_37 : decode cX12_arrive 37 = .ok (.aload_n 0, 1) := by decide +kernel
theorem dX12_arrive_38 : decode cX12_arrive 38 = .ok (.getfield 434, 3) := by decide +kernel
theorem dX12_arrive_41 : decode cX12_arrive 41 = .ok (.i2l, 1) := by decide +kernel
theorem dX12_arrive_42 : decode cX12_arrive 42 = .ok (.aload_n 0, 1) := by decide +kernel
theorem dX12_arrive_43 : decode cX12_arrive 43 = .ok (.getfield 145, 3) := by decide +kernel
theorem dX12_arrive_46 : decode cX12_arrive 46 = .ok (.iload_n 1, 1) := by decide +kernel
theorem dX12_arrive_47 : decode cX12_arrive 47 = .ok (.iaload, 1) := by decide +kernel
theorem dX12_arrive_48 : decode cX12_arrive 48 = .ok (.i2l, 1) := by decide +kernel
theorem dX12_arrive_49 : decode cX12_arrive 49 = .ok (.ladd, 1) := by decide +kernel
theorem dX12_arrive_50 : decode cX12_arrive 50 = .ok (.ldc2_w 415, 3) := by decide +kernel
theorem dX12_arrive_53 : decode cX12_arrive 53 = .ok (.lcmp, 1) := by decide +kernel
theorem dX12_arrive_54 : decode cX12_arrive 54 = .ok (.ifCond .le 6, 3) := by decide +kernel
theorem dX12_arrive_57 : decode cX12_arrive 57 = .ok (.bipush (-3), 2) := by decide +kernel
theorem dX12_arrive_59 : decode cX12_arrive 59 = .ok (.ireturn, 1) := by decide +kernel
theorem dX12_arrive_60 : decode cX12_arrive 60 = .ok (.aload_n 0, 1) := by decide +kernel
theorem dX12_arrive_61 : decode cX12_arrive 61 = .ok (.getfield 148, 3) := by decide +kernel
theorem dX12_arrive_64 : decode cX12_arrive 64 = .ok (.iload_n 1, 1) := by decide +kernel
theorem dX12_arrive_65 : decode cX12_arrive 65 = .ok (.iload_n 2, 1) := by decide +kernel
theorem dX12_arrive_66 : decode cX12_arrive 66 = .ok (.iconst 1, 1) := by decide +kernel
theorem dX12_arrive_67 : decode cX12_arrive 67 = .ok (.if_icmp .ne 7, 3) := by decide +kernel
theorem dX12_arrive_70 : decode cX12_arrive 70 = .ok (.iconst 2, 1) := by decide +kernel
theorem dX12_arrive_71 : decode cX12_arrive 71 = .ok (.goto 4, 3) := by decide +kernel
theorem dX12_arrive_74 : decode cX12_arrive 74 = .ok (.iconst 3, 1) := by decide +kernel
theorem dX12_arrive_75 : decode cX12_arrive 75 = .ok (.iastore, 1) := by decide +kernel
theorem dX12_arrive_76 : decode cX12_arrive 76 = .ok (.aload_n 0, 1) := by decide +kernel
theorem dX12_arrive_77 : decode cX12_arrive 77 = .ok (.dup, 1) := by decide +kernel
theorem dX12_arrive_78 : decode cX12_arrive 78 = .ok (.getfield 434, 3) := by decide +kernel
theorem dX12_arrive_81 : decode cX12_arrive 81 = .ok (.iload_n 2, 1) := by decide +kernel
theorem dX12_arrive_82 : decode cX12_arrive 82 = .ok (.iconst 1, 1) := by decide +kernel
theorem dX12_arrive_83 : decode cX12_arrive 83 = .ok (.if_icmp .ne 12, 3) := by decide +kernel
theorem dX12_arrive_86 : decode cX12_arrive 86 = .ok (.aload_n 0, 1) := by decide +kernel
theorem dX12_arrive_87 : decode cX12_arrive 87 = .ok (.getfield 145, 3) := by decide +kernel
theorem dX12_arrive_90 : decode cX12_arrive 90 = .ok (.iload_n 1, 1) := by decide +kernel
theorem dX12_arrive_91 : decode cX12_arrive 91 = .ok (.iaload, 1) := by decide +kernel
theorem dX12_arrive_92 : decode cX12_arrive 92 = .ok (.goto 4, 3) := by decide +kernel
theorem dX12_arrive_95 : decode cX12_arrive 95 = .ok (.iconst 0, 1) := by decide +kernel
theorem dX12_arrive_96 : decode cX12_arrive 96 = .ok (.iadd, 1) := by decide +kernel
theorem dX12_arrive_97 : decode cX12_arrive 97 = .ok (.putfield 434, 3) := by decide +kernel
theorem dX12_arrive_100 : decode cX12_arrive 100 = .ok (.iconst 1, 1) := by decide +kernel
theorem dX12_arrive_101 : decode cX12_arrive 101 = .ok (.ireturn, 1) := by decide +kernel
abbrev M_X12_arrive : MI := (RX12, cX12_arrive, 3, (some .int), ({ frames := 2, cells := 0, slots := 0, locals := 43 } : Room), 0, 0, false)
def f_X12_arrive_b96 (h : AH) (s0 : Int32) (s1 : Int32) (s2 : Nat) : Option (Int32 × AH) := (xpi h s2 13 54 (s1 + s0)).bind fun h20 => some (1, h20)
def f_X12_arrive_b75 (h : AH) (x0 : Nat) (x1 : Int32) (x2 : Int32) (s3 : Int32) (s4 : Int32) (s5 : Nat) : Option (Int32 × AH) := (xis h s5 s4 s3).bind fun h15 => (xgi h15 x0 13 54).bind fun v16 => (if x2 = 1 then (xgr h15 x0 13 52).bind fun v18 => (xia h15 v18 x1).bind fun v19 => f_X12_arrive_b96 h15 v19 v16 x0 else f_X12_arrive_b96 h15 0 v16 x0)
def f_X12_arrive_b60 (h : AH) (x0 : Nat) (x1 : Int32) (x2 : Int32) : Option (Int32 × AH) := (xgr h x0 13 53).bind fun v13 => (if x2 = 1 then f_X12_arrive_b75 h x0 x1 x2 2 x1 v13 else f_X12_arrive_b75 h x0 x1 x2 3 x1 v13)
def f_X12_arrive (h0 : AH) (p0 : Nat) (p1 : Int32) (p2 : Int32) : Option (Int32 × AH) := if kd h0 p0 = 13 + 1 then (f_X12_isPayment h0 p0 p1).bind fun v1 => (if v1 = 0 then some ((-1), h0) else (f_X12_in h0 p2 0 1).bind fun v3 => (if v3 = 0 then some ((-2), h0) else (xgr h0 p0 13 53).bind fun v5 => (xia h0 v5 p1).bind fun v6 => (if v6 = 1 then (if p2 = 1 then (xgi h0 p0 13 54).bind fun v9 => (xgr h0 p0 13 52).bind fun v10 => (xia h0 v10 p1).bind fun v11 => (if (lg_cmp ((v9 : Int32).toInt64 + (v11 : Int32).toInt64) 2000000000) ≤ 0 then f_X12_arrive_b60 h0 p0 p1 p2 else some ((-3), h0)) else f_X12_arrive_b60 h0 p0 p1 p2) else some ((-3), h0)))) else none
theorem g_X12_arrive {h0 : AH} {p0 : Nat} {p1 : Int32} {p2 : Int32} {x : (Int32 × AH)} (e : f_X12_arrive h0 p0 p1 p2 = some x) : kd h0 p0 = 13 + 1 := by
  unfold f_X12_arrive at e
  by_cases hk : kd h0 p0 = 13 + 1
  · exact hk
  · rw [if_neg hk] at e
    cases e
theorem km_X12_arrive : KM yX12_arrive M_X12_arrive 2 := ⟨in_tb 1810 (by decide +kernel) rfl, in_tb 9 (by decide +kernel) rfl, by decide +kernel, rfl, rfl⟩
theorem hm_X12_arrive : M_X12_arrive.2.2.2.2.2.1 = 0 ∧ M_X12_arrive.2.2.2.2.2.2.1 = 0 := ⟨rfl, rfl⟩
section
variable {l : Launch} {g : GG}
set_option maxRecDepth 100000 in
set_option maxHeartbeats 4000000 in
theorem t_X12_arrive_b96 (h0 : AH) (h : AH) (s0 : Int32) (s1 : Int32) (s2 : Nat) : AO l g M_X12_arrive false h0 96 [] [.int s0, .int s1, .ref s2] h 0 0 rSi (f_X12_arrive_b96  h s0 s1 s2) := by
  unfold f_X12_arrive_b96
  refine a_iadd dX12_arrive_96 ?_
  refine a_puti kc13 54 dX12_arrive_97 (by decide) rfl w_fieldLink_RainCoverModel_434 rfl rfl (fun h20 => ?_)
  refine a_iconst (v := 1) dX12_arrive_100 (by decide) ?_
  exact a_iret dX12_arrive_101 rfl rfl (by decide) (by decide)
set_option maxRecDepth 100000 in
set_option maxHeartbeats 4000000 in
theorem t_X12_arrive_b75 (h0 : AH) (h : AH) (x0 : Nat) (x1 : Int32) (x2 : Int32) (s3 : Int32) (s4 : Int32) (s5 : Nat) : AO l g M_X12_arrive false h0 75 [(0, .ref x0), (1, .int x1), (2, .int x2)] [.int s3, .int s4, .ref s5] h 0 0 rSi (f_X12_arrive_b75  h x0 x1 x2 s3 s4 s5) := by
  unfold f_X12_arrive_b75
  refine a_iast dX12_arrive_75 (fun h15 => ?_)
  refine a_aload_n dX12_arrive_76 rfl 0 rfl ?_
  refine a_dup dX12_arrive_77 rfl ?_
  refine a_geti kc13 54 dX12_arrive_78 (by decide) rfl w_fieldLink_RainCoverModel_434 (fun v16 => ?_)
  refine a_iload_n dX12_arrive_81 rfl 2 rfl ?_
  refine a_iconst (v := 1) dX12_arrive_82 (by decide) ?_
  refine a_icmp_ne 95 dX12_arrive_83 (by decide) (fun c17 => ?_) (fun c17 => ?_)
  · refine a_aload_n dX12_arrive_86 rfl 0 rfl ?_
    refine a_getr kc13 52 dX12_arrive_87 (by decide) rfl w_fieldLink_RainCoverModel_145 (fun v18 => ?_)
    refine a_iload_n dX12_arrive_90 rfl 1 rfl ?_
    refine a_iald dX12_arrive_91 (fun v19 => ?_)
    refine a_goto 96 dX12_arrive_92 (by decide) ?_
    refine a_pick (lc2 := []) [] rfl ?_
    exact t_X12_arrive_b96 h0 h15 v19 v16 x0
  · refine a_iconst (v := 0) dX12_arrive_95 (by decide) ?_
    refine a_pick (lc2 := []) [] rfl ?_
    exact t_X12_arrive_b96 h0 h15 0 v16 x0
set_option maxRecDepth 100000 in
set_option maxHeartbeats 4000000 in
theorem t_X12_arrive_b60 (h0 : AH) (h : AH) (x0 : Nat) (x1 : Int32) (x2 : Int32) : AO l g M_X12_arrive false h0 60 [(0, .ref x0), (1, .int x1), (2, .int x2)] [] h 0 0 rSi (f_X12_arrive_b60  h x0 x1 x2) := by
  unfold f_X12_arrive_b60
  refine a_aload_n dX12_arrive_60 rfl 0 rfl ?_
  refine a_getr kc13 53 dX12_arrive_61 (by decide) rfl w_fieldLink_RainCoverModel_148 (fun v13 => ?_)
  refine a_iload_n dX12_arrive_64 rfl 1 rfl ?_
  refine a_iload_n dX12_arrive_65 rfl 2 rfl ?_
  refine a_iconst (v := 1) dX12_arrive_66 (by decide) ?_
  refine a_icmp_ne 74 dX12_arrive_67 (by decide) (fun c14 => ?_) (fun c14 => ?_)
  · refine a_iconst (v := 2) dX12_arrive_70 (by decide) ?_
    refine a_goto 75 dX12_arrive_71 (by decide) ?_
    exact t_X12_arrive_b75 h0 h x0 x1 x2 2 x1 v13
  · refine a_iconst (v := 3) dX12_arrive_74 (by decide) ?_
    exact t_X12_arrive_b75 h0 h x0 x1 x2 3 x1 v13
end
set_option maxRecDepth 100000 in
set_option maxHeartbeats 4000000 in
theorem c_X12_arrive (l : Launch) (g : GG) (h0 : AH) (p0 : Nat) (p1 : Int32) (p2 : Int32) : CN l g yX12_arrive M_X12_arrive false [.ref p0, .int p1, .int p2] h0 rSi (f_X12_arrive h0 p0 p1 p2) := by
  refine CN.of (by decide) rfl (fun hh => by first | rfl | cases hh) (Nat.le_of_ble_eq_true rfl) ?_
  unfold f_X12_arrive
  refine a_gd (fun hkd => ?_)
  refine a_aload_n dX12_arrive_0 rfl 0 rfl ?_
  refine a_iload_n dX12_arrive_1 rfl 1 rfl ?_
  refine a_cV_Pi (r := p0) (ci := 13) (as := [.int p1]) (st := []) dX12_arrive_2 (c_X12_isPayment l g h0 p0 p1) rfl km_X12_isPayment (hm_X12_isPayment) rfl (by decide) rfl (fun _ ee => g_X12_isPayment ee) w_methodLink_RainCoverModel_431 w_instanceMethod_RainCoverModel_isPayment__I_Z w_selects_RainCoverModel_RainCoverModel_isPayment__I_Z_RainCoverModel_isPayment__I_Z ⟨⟨by decide, by decide⟩, ⟨by decide, by decide⟩⟩ (Nat.le_of_ble_eq_true rfl) (fun v1 => ?_)
  refine a_if_ne 10 dX12_arrive_5 (by decide) (fun c2 => ?_) (fun c2 => ?_)
  · refine a_iconst (v := (-1)) dX12_arrive_8 (by decide) ?_
    exact a_iret dX12_arrive_9 rfl rfl (by decide) (by decide)
  · refine a_iload_n dX12_arrive_10 rfl 2 rfl ?_
    refine a_iconst (v := 0) dX12_arrive_11 (by decide) ?_
    refine a_iconst (v := 1) dX12_arrive_12 (by decide) ?_
    refine a_cS_Pi (as := [.int p2, .int 0, .int 1]) (st := []) dX12_arrive_13 (c_X12_in l g h0 p2 0 1) rfl km_X12_in (hm_X12_in) w_methodLink_RainCoverModel_204 w_static_RainCoverModel_in__III_Z ⟨⟨by decide, by decide⟩, ⟨by decide, by decide⟩⟩ (Nat.le_of_ble_eq_true rfl) (fun v3 => ?_)
    refine a_if_ne 22 dX12_arrive_16 (by decide) (fun c4 => ?_) (fun c4 => ?_)
    · refine a_bipush (v := (-2)) dX12_arrive_19 (by decide) ?_
      exact a_iret dX12_arrive_21 rfl rfl (by decide) (by decide)
    · refine a_aload_n dX12_arrive_22 rfl 0 rfl ?_
      refine a_getr kc13 53 dX12_arrive_23 (by decide) rfl w_fieldLink_RainCoverModel_148 (fun v5 => ?_)
      refine a_iload_n dX12_arrive_26 rfl 1 rfl ?_
      refine a_iald dX12_arrive_27 (fun v6 => ?_)
      refine a_iconst (v := 1) dX12_arrive_28 (by decide) ?_
      refine a_icmp_ne 57 dX12_arrive_29 (by decide) (fun c7 => ?_) (fun c7 => ?_)
      · refine a_iload_n dX12_arrive_32 rfl 2 rfl ?_
        refine a_iconst (v := 1) dX12_arrive_33 (by decide) ?_
        refine a_icmp_ne 60 dX12_arrive_34 (by decide) (fun c8 => ?_) (fun c8 => ?_)
        · refine a_aload_n dX12_arrive_37 rfl 0 rfl ?_
          refine a_geti kc13 54 dX12_arrive_38 (by decide) rfl w_fieldLink_RainCoverModel_434 (fun v9 => ?_)
          refine a_i2l dX12_arrive_41 ?_
          refine a_aload_n dX12_arrive_42 rfl 0 rfl ?_
          refine a_getr kc13 52 dX12_arrive_43 (by decide) rfl w_fieldLink_RainCoverModel_145 (fun v10 => ?_)
          refine a_iload_n dX12_arrive_46 rfl 1 rfl ?_
          refine a_iald dX12_arrive_47 (fun v11 => ?_)
          refine a_i2l dX12_arrive_48 ?_
          refine a_ladd dX12_arrive_49 ?_
          refine a_ldc2 (v := 2000000000) dX12_arrive_50 w_constantLong_RainCoverModel_415 ?_
          refine a_lcmp dX12_arrive_53 ?_
          refine a_if_le 60 dX12_arrive_54 (by decide) (fun c12 => ?_) (fun c12 => ?_)
          · exact t_X12_arrive_b60 h0 h0 p0 p1 p2
          · refine a_bipush (v := (-3)) dX12_arrive_57 (by decide) ?_
            exact a_iret dX12_arrive_59 rfl rfl (by decide) (by decide)
        · exact t_X12_arrive_b60 h0 h0 p0 p1 p2
      · refine a_bipush (v := (-3)) dX12_arrive_57 (by decide) ?_
        exact a_iret dX12_arrive_59 rfl rfl (by decide) (by decide)
theorem dX12_complain_0 : decode cX12_complain 0 = .ok (.aload_n 0, 1) := by decide +kernel
theorem dX12_complain_1 : decode cX12_complain 1 = .ok (.iload_n 1, 1) := by decide +kernel
theorem dX12_complain_2 : decode cX12_complain 2 = .ok (.invokevirtual 346, 3) := by decide +kernel
theorem dX12_complain_5 : decode cX12_complain 5 = .ok (.ifCond .eq 10, 3) := by decide +kernel
theorem dX12_complain_8 : decode cX12_complain 8 = .ok (.iload_n 2, 1) := by decide +kernel
theorem dX12_complain_9 : decode cX12_complain 9 = .ok (.invokestatic 221, 3) := by decide +kernel
theorem dX12_complain_12 : decode cX12_complain 12 = .ok (.ifCond .ne 5, 3) := by decide +kernel
theorem dX12_complain_15 : decode cX12_complain 15 = .ok (.iconst (-1), 1) := by decide +kernel
theorem dX12_complain_16 : decode cX12_complain 16 = .ok (.ireturn, 1) := by decide +kernel
theorem dX12_complain_17 : decode cX12_complain 17 = .ok (.aload_n 0, 1) := by decide +kernel
theorem dX12_complain_18 : decode cX12_complain 18 = .ok (.iload_n 1, 1) := by decide +kernel
theorem dX12_complain_19 : decode cX12_complain 19 = .ok (.iload_n 2, 1) := by decide +kernel
theorem dX12_complain_20 : decode cX12_complain 20 = .ok (.invokevirtual 355, 3) := by decide +kernel
theorem dX12_complain_23 : decode cX12_complain 23 = .ok (.iconst (-1), 1) := by decide +kernel
theorem dX12_complain_24 : decode cX12_complain 24 = .ok (.if_icmp .ne 7, 3) := by decide +kernel
theorem dX12_complain_27 : decode cX12_complain 27 = .ok (.iconst 1, 1) := by decide +kernel
theorem dX12_complain_28 : decode cX12_complain 28 = .ok (.goto 4, 3) := by decide +kernel
theorem dX12_complain_31 : decode cX12_complain 31 = .ok (.iconst 0, 1) := by decide +kernel
theorem dX12_complain_32 : decode cX12_complain 32 = .ok (.istore_n 3, 1) := by decide +kernel
theorem dX12_complain_33 : decode cX12_complain 33 = .ok (.iconst 0, 1) := by decide +kernel
theorem dX12_complain_34 : decode cX12_complain 34 = .ok (.istore 4, 2) := by decide +kernel
theorem dX12_complain_36 : decode cX12_complain 36 = .ok (.iload 4, 2) := by decide +kernel
theorem dX12_complain_38 : decode cX12_complain 38 = .ok (.aload_n 0, 1) := by decide +kernel
theorem dX12_complain_39 : decode cX12_complain 39 = .ok (.getfield 439, 3) := by decide +kernel
theorem dX12_complain_42 : decode cX12_complain 42 = .ok (.if_icmp .ge 41, 3) := by decide +kernel
theorem dX12_complain_45 : decode cX12_complain 45 = .ok (.iload_n 3, 1) := by decide +kernel
theorem dX12_complain_46 : decode cX12_complain 46 = .ok (.ifCond .ne 25, 3) := by decide +kernel
theorem dX12_complain_49 : decode cX12_complain 49 = .ok (.aload_n 0, 1) := by decide +kernel
theorem dX12_complain_50 : decode cX12_complain 50 = .ok (.getfield 151, 3) := by decide +kernel
theorem dX12_complain_53 : decode cX12_complain 53 = .ok (.iload 4, 2) := by decide +kernel
theorem dX12_complain_55 : decode cX12_complain 55 = .ok (.iaload, 1) := by decide +kernel
theorem dX12_complain_56 : decode cX12_complain 56 = .ok (.iload_n 1, 1) := by decide +kernel
theorem dX12_complain_57 : decode cX12_complain 57 = .ok (.if_icmp .ne 18, 3) := by decide +kernel
theorem dX12_complain_60 : decode cX12_complain 60 = .ok (.aload_n 0, 1) := by decide +kernel
theorem dX12_complain_61 : decode cX12_complain 61 = .ok (.getfield 154, 3) := by decide +kernel
theorem dX12_complain_64 : decode cX12_complain 64 = .ok (.iload 4, 2) := by decide +kernel
theorem dX12_complain_66 : decode cX12_complain 66 = .ok (.iaload, 1) := by decide +kernel
theorem dX12_complain_67 : decode cX12_complain 67 = .ok (.iload_n 2, 1) := by decide +kernel
theorem dX12_complain_68 : decode cX12_complain 68 = .ok (.if_icmp .ne 7, 3) := by decide +kernel
theorem dX12_complain_71 : decode cX12_complain 71 = .ok (.iconst 1, 1) := by decide +kernel
theorem dX12_complain_72 : decode cX12_complain 72 = .ok (.goto 4, 3) := by decide +kernel
theorem dX12_complain_75 : decode cX12_complain 75 = .ok (.iconst 0, 1) := by decide +kernel
theorem dX12_complain_76 : decode cX12_complain 76 = .ok (.istore_n 3, 1) := by decide +kernel
theorem dX12_complain_77 : decode cX12_complain 77 = .ok (.iinc 4 1, 3) := by decide +kernel
theorem dX12_complain_80 : decode cX12_complain 80 = .ok (.goto (-44), 3) := by decide +kernel
theorem dX12_complain_83 : decode cX12_complain 83 = .ok (.iload_n 3, 1) := by decide +kernel
theorem dX12_complain_84 : decode cX12_complain 84 = .ok (.ifCond .eq 6, 3) := by decide +kernel
theorem dX12_complain_87 : decode cX12_complain 87 = .ok (.bipush (-3), 2) := by decide +kernel
theorem dX12_complain_89 : decode cX12_complain 89 = .ok (.ireturn, 1) := by decide +kernel
theorem dX12_complain_90 : decode cX12_complain 90 = .ok (.aload_n 0, 1) := by decide +kernel
theorem dX12_complain_91 : decode cX12_complain 91 = .ok (.getfield 439, 3) := by decide +kernel
theorem dX12_complain_94 : decode cX12_complain 94 = .ok (.bipush 20, 2) := by decide +kernel
theorem dX12_complain_96 : decode cX12_complain 96 = .ok (.if_icmp .ne 6, 3) := by decide +kernel
theorem dX12_complain_99 : decode cX12_complain 99 = .ok (.bipush (-4), 2) := by decide +kernel
theorem dX12_complain_101 : decode cX12_complain 101 = .ok (.ireturn, 1) := by decide +kernel
theorem dX12_complain_102 : decode cX12_complain 102 = .ok (.aload_n 0, 1) := by decide +kernel
theorem dX12_complain_103 : decode cX12_complain 103 = .ok (.getfield 151, 3) := by decide +kernel
theorem dX12_complain_106 : decode cX12_complain 106 = .ok (.aload_n 0, 1) := by decide +kernel
theorem dX12_complain_107 : decode cX12_complain 107 = .ok (.getfield 439, 3) := by decide +kernel
theorem dX12_complain_110 : decode cX12_complain 110 = .ok (.iload_n 1, 1) := by decide +kernel
theorem dX12_complain_111 : decode cX12_complain 111 = .ok (.iastore, 1) := by decide +kernel
theorem dX12_complain_112 : decode cX12_complain 112 = .ok (.aload_n 0, 1) := by decide +kernel
theorem dX12_complain_113 : decode cX12_complain 113 = .ok (.getfield 154, 3) := by decide +kernel
theorem dX12_complain_116 : decode cX12_complain 116 = .ok (.aload_n 0, 1) := by decide +kernel
theorem dX12_complain_117 : decode cX12_complain 117 = .ok (.getfield 439, 3) := by decide +kernel
theorem dX12_complain_120 : decode cX12_complain 120 = .ok (.iload_n 2, 1) := by decide +kernel
theorem dX12_complain_121 : decode cX12_complain 121 = .ok (.iastore, 1) := by decide +kernel
theorem dX12_complain_122 : decode cX12_complain 122 = .ok (.aload_n 0, 1) := by decide +kernel
theorem dX12_complain_123 : decode cX12_complain 123 = .ok (.getfield 157, 3) := by decide +kernel
theorem dX12_complain_126 : decode cX12_complain 126 = .ok (.aload_n 0, 1) := by decide +kernel
theorem dX12_complain_127 : decode cX12_complain 127 = .ok (.getfield 439, 3) := by decide +kernel
theorem dX12_complain_130 : decode cX12_complain 130 = .ok (.aload_n 0, 1) := by decide +kernel
theorem dX12_complain_131 : decode cX12_complain 131 = .ok (.iload_n 1, 1) := by decide +kernel
theorem dX12_complain_132 : decode cX12_complain 132 = .ok (.iload_n 2, 1) := by decide +kernel
theorem dX12_complain_133 : decode cX12_complain 133 = .ok (.invokevirtual 355, 3) := by decide +kernel
theorem dX12_complain_136 : decode cX12_complain 136 = .ok (.iastore, 1) := by decide +kernel
theorem dX12_complain_137 : decode cX12_complain 137 = .ok (.aload_n 0, 1) := by decide +kernel
theorem dX12_complain_138 : decode cX12_complain 138 = .ok (.getfield 160, 3) := by decide +kernel
theorem dX12_complain_141 : decode cX12_complain 141 = .ok (.aload_n 0, 1) := by decide +kernel
theorem dX12_complain_142 : decode cX12_complain 142 = .ok (.getfield 439, 3) := by decide +kernel
theorem dX12_complain_145 : decode cX12_complain 145 = .ok (.iconst 0, 1) := by decide +kernel
theorem dX12_complain_146 : decode cX12_complain 146 = .ok (.iastore, 1) := by decide +kernel
theorem dX12_complain_147 : decode cX12_complain 147 = .ok (.aload_n 0, 1) := by decide +kernel
theorem dX12_complain_148 : decode cX12_complain 148 = .ok (.getfield 163, 3) := by decide +kernel
theorem dX12_complain_151 : decode cX12_complain 151 = .ok (.aload_n 0, 1) := by decide +kernel
theorem dX12_complain_152 : decode cX12_complain 152 = .ok (.getfield 439, 3) := by decide +kernel
theorem dX12_complain_155 : decode cX12_complain 155 = .ok (.iconst (-1), 1) := by decide +kernel
theorem dX12_complain_156 : decode cX12_complain 156 = .ok (.iastore, 1) := by decide +kernel
theorem dX12_complain_157 : decode cX12_complain 157 = .ok (.aload_n 0, 1) := by decide +kernel
theorem dX12_complain_158 : decode cX12_complain 158 = .ok (.dup, 1) := by decide +kernel
theorem dX12_complain_159 : decode cX12_complain 159 = .ok (.getfield 439, 3) := by decide +kernel
theorem dX12_complain_162 : decode cX12_complain 162 = .ok (.iconst 1, 1) := by decide +kernel
theorem dX12_complain_163 : decode cX12_complain 163 = .ok (.iadd, 1) := by decide +kernel
theorem dX12_complain_164 : decode cX12_complain 164 = .ok (.putfield 439, 3) := by decide +kernel
theorem dX12_complain_167 : decode cX12_complain 167 = .ok (.aload_n 0, 1) := by decide +kernel
theorem dX12_complain_168 : decode cX12_complain 168 = .ok (.getfield 439, 3) := by decide +kernel
theorem dX12_complain_171 : decode cX12_complain 171 = .ok (.iconst 1, 1) := by decide +kernel
theorem dX12_complain_172 : decode cX12_complain 172 = .ok (.isub, 1) := by decide +kernel
theorem dX12_complain_173 : decode cX12_complain 173 = .ok (.ireturn, 1) := by decide +kernel
abbrev M_X12_complain : MI := (RX12, cX12_complain, 5, (some .int), ({ frames := 2, cells := 0, slots := 0, locals := 46 } : Room), 0, 0, false)
def f_X12_complain_b76 (N : Nat) (K36 : AH → Nat → Int32 → Int32 → Int32 → Int32 → Option (Int32 × AH)) (h : AH) (x0 : Nat) (x1 : Int32) (x2 : Int32) (x4 : Int32) (s4 : Int32) : Option (Int32 × AH) := K36 h x0 x1 x2 s4 (x4 + 1)
def f_X12_complain_b71 (N : Nat) (K36 : AH → Nat → Int32 → Int32 → Int32 → Int32 → Option (Int32 × AH)) (h : AH) (x0 : Nat) (x1 : Int32) (x2 : Int32) (x4 : Int32) : Option (Int32 × AH) := f_X12_complain_b76 N K36 h x0 x1 x2 x4 1
def f_X12_complain_b75 (N : Nat) (K36 : AH → Nat → Int32 → Int32 → Int32 → Int32 → Option (Int32 × AH)) (h : AH) (x0 : Nat) (x1 : Int32) (x2 : Int32) (x4 : Int32) : Option (Int32 × AH) := f_X12_complain_b76 N K36 h x0 x1 x2 x4 0
def f_X12_complain_b36_body (N : Nat) (K36 : AH → Nat → Int32 → Int32 → Int32 → Int32 → Option (Int32 × AH)) (h : AH) (x0 : Nat) (x1 : Int32) (x2 : Int32) (x3 : Int32) (x4 : Int32) : Option (Int32 × AH) := (xgi h x0 13 55).bind fun v7 => (if v7 ≤ x4 then (if x3 = 0 then (xgi h x0 13 55).bind fun v10 => (if v10 = 20 then some ((-4), h) else (xgr h x0 13 56).bind fun v12 => (xgi h x0 13 55).bind fun v13 => (xis h v12 v13 x1).bind fun h14 => (xgr h14 x0 13 57).bind fun v15 => (xgi h14 x0 13 55).bind fun v16 => (xis h14 v15 v16 x2).bind fun h17 => (xgr h17 x0 13 58).bind fun v18 => (xgi h17 x0 13 55).bind fun v19 => (f_X12_termOf h17 N x0 x1 x2).bind fun v20 => (xis h17 v18 v19 v20).bind fun h21 => (xgr h21 x0 13 59).bind fun v22 => (xgi h21 x0 13 55).bind fun v23 => (xis h21 v22 v23 0).bind fun h24 => (xgr h24 x0 13 60).bind fun v25 => (xgi h24 x0 13 55).bind fun v26 => (xis h24 v25 v26 (-1)).bind fun h27 => (xgi h27 x0 13 55).bind fun v28 => (xpi h27 x0 13 55 (v28 + 1)).bind fun h29 => (xgi h29 x0 13 55).bind fun v30 => some ((v30 - 1), h29)) else some ((-3), h)) else (if x3 = 0 then (xgr h x0 13 56).bind fun v32 => (xia h v32 x4).bind fun v33 => (if v33 = x1 then (xgr h x0 13 57).bind fun v35 => (xia h v35 x4).bind fun v36 => (if v36 = x2 then f_X12_complain_b71 N K36 h x0 x1 x2 x4 else f_X12_complain_b75 N K36 h x0 x1 x2 x4) else f_X12_complain_b75 N K36 h x0 x1 x2 x4) else f_X12_complain_b71 N K36 h x0 x1 x2 x4))
def f_X12_complain_b36 (N : Nat) : Nat → AH → Nat → Int32 → Int32 → Int32 → Int32 → Option (Int32 × AH)
  | 0, _, _, _, _, _, _ => none
  | n + 1, h, x0, x1, x2, x3, x4 => f_X12_complain_b36_body N  (f_X12_complain_b36 N  n) h x0 x1 x2 x3 x4
def f_X12_complain_b32 (N : Nat) (h : AH) (x0 : Nat) (x1 : Int32) (x2 : Int32) (s3 : Int32) : Option (Int32 × AH) := f_X12_complain_b36 N N h x0 x1 x2 s3 0
def f_X12_complain (h0 : AH) (N : Nat) (p0 : Nat) (p1 : Int32) (p2 : Int32) : Option (Int32 × AH) := if kd h0 p0 = 13 + 1 then (f_X12_isFarm h0 p0 p1).bind fun v1 => (if v1 = 0 then some ((-1), h0) else (f_X12_isSeason h0 p2).bind fun v3 => (if v3 = 0 then some ((-1), h0) else (f_X12_termOf h0 N p0 p1 p2).bind fun v5 => (if v5 = (-1) then f_X12_complain_b32 N h0 p0 p1 p2 1 else f_X12_complain_b32 N h0 p0 p1 p2 0))) else none
theorem g_X12_complain {h0 : AH} {N : Nat} {p0 : Nat} {p1 : Int32} {p2 : Int32} {x : (Int32 × AH)} (e : f_X12_complain h0 N p0 p1 p2 = some x) : kd h0 p0 = 13 + 1 := by
  unfold f_X12_complain at e
  by_cases hk : kd h0 p0 = 13 + 1
  · exact hk
  · rw [if_neg hk] at e
    cases e
theorem km_X12_complain : KM yX12_complain M_X12_complain 2 := ⟨in_tb 1814 (by decide +kernel) rfl, in_tb 9 (by decide +kernel) rfl, by decide +kernel, rfl, rfl⟩
theorem hm_X12_complain : M_X12_complain.2.2.2.2.2.1 = 0 ∧ M_X12_complain.2.2.2.2.2.2.1 = 0 := ⟨rfl, rfl⟩
section
variable {l : Launch} {g : GG}
set_option maxRecDepth 100000 in
set_option maxHeartbeats 4000000 in
theorem t_X12_complain_b76 (h0 : AH) (N : Nat) (K36 : AH → Nat → Int32 → Int32 → Int32 → Int32 → Option (Int32 × AH)) (hK36 : ∀ (z : AH) (z0 : Nat) (z1 : Int32) (z2 : Int32) (z3 : Int32) (z4 : Int32), AO l g M_X12_complain false h0 36 [(0, .ref z0), (1, .int z1), (2, .int z2), (3, .int z3), (4, .int z4)] [] z 0 0 rSi (K36 z z0 z1 z2 z3 z4)) (h : AH) (x0 : Nat) (x1 : Int32) (x2 : Int32) (x4 : Int32) (s4 : Int32) : AO l g M_X12_complain false h0 76 [(0, .ref x0), (1, .int x1), (2, .int x2), (4, .int x4)] [.int s4] h 0 0 rSi (f_X12_complain_b76 N K36 h x0 x1 x2 x4 s4) := by
  unfold f_X12_complain_b76
  refine a_istore_n (lc2 := [(3, .int s4), (0, .ref x0), (1, .int x1), (2, .int x2), (4, .int x4)]) dX12_complain_76 rfl (by decide) rfl ?_
  refine a_iinc (q := 4) (v := (x4 + 1)) (lc2 := [(4, .int (x4 + 1)), (3, .int s4), (0, .ref x0), (1, .int x1), (2, .int x2)]) dX12_complain_77 rfl rfl (by decide) rfl ?_
  refine a_goto 36 dX12_complain_80 (by decide) ?_
  refine a_pick (lc2 := [(0, .ref x0), (1, .int x1), (2, .int x2), (3, .int s4), (4, .int (x4 + 1))]) [2, 3, 4, 1, 0] rfl ?_
  exact hK36 h x0 x1 x2 s4 (x4 + 1)
set_option maxRecDepth 100000 in
set_option maxHeartbeats 4000000 in
theorem t_X12_complain_b71 (h0 : AH) (N : Nat) (K36 : AH → Nat → Int32 → Int32 → Int32 → Int32 → Option (Int32 × AH)) (hK36 : ∀ (z : AH) (z0 : Nat) (z1 : Int32) (z2 : Int32) (z3 : Int32) (z4 : Int32), AO l g M_X12_complain false h0 36 [(0, .ref z0), (1, .int z1), (2, .int z2), (3, .int z3), (4, .int z4)] [] z 0 0 rSi (K36 z z0 z1 z2 z3 z4)) (h : AH) (x0 : Nat) (x1 : Int32) (x2 : Int32) (x4 : Int32) : AO l g M_X12_complain false h0 71 [(0, .ref x0), (1, .int x1), (2, .int x2), (4, .int x4)] [] h 0 0 rSi (f_X12_complain_b71 N K36 h x0 x1 x2 x4) := by
  unfold f_X12_complain_b71
  refine a_iconst (v := 1) dX12_complain_71 (by decide) ?_
  refine a_goto 76 dX12_complain_72 (by decide) ?_
  exact t_X12_complain_b76 h0 N K36 hK36 h x0 x1 x2 x4 1
set_option maxRecDepth 100000 in
set_option maxHeartbeats 4000000 in
theorem t_X12_complain_b75 (h0 : AH) (N : Nat) (K36 : AH → Nat → Int32 → Int32 → Int32 → Int32 → Option (Int32 × AH)) (hK36 : ∀ (z : AH) (z0 : Nat) (z1 : Int32) (z2 : Int32) (z3 : Int32) (z4 : Int32), AO l g M_X12_complain false h0 36 [(0, .ref z0), (1, .int z1), (2, .int z2), (3, .int z3), (4, .int z4)] [] z 0 0 rSi (K36 z z0 z1 z2 z3 z4)) (h : AH) (x0 : Nat) (x1 : Int32) (x2 : Int32) (x4 : Int32) : AO l g M_X12_complain false h0 75 [(0, .ref x0), (1, .int x1), (2, .int x2), (4, .int x4)] [] h 0 0 rSi (f_X12_complain_b75 N K36 h x0 x1 x2 x4) := by
  unfold f_X12_complain_b75
  refine a_iconst (v := 0) dX12_complain_75 (by decide) ?_
  exact t_X12_complain_b76 h0 N K36 hK36 h x0 x1 x2 x4 0
set_option maxRecDepth 100000 in
set_option maxHeartbeats 4000000 in
theorem t_X12_complain_b36_body (h0 : AH) (N : Nat) (K36 : AH → Nat → Int32 → Int32 → Int32 → Int32 → Option (Int32 × AH)) (hK36 : ∀ (z : AH) (z0 : Nat) (z1 : Int32) (z2 : Int32) (z3 : Int32) (z4 : Int32), AO l g M_X12_complain false h0 36 [(0, .ref z0), (1, .int z1), (2, .int z2), (3, .int z3), (4, .int z4)] [] z 0 0 rSi (K36 z z0 z1 z2 z3 z4)) (h : AH) (x0 : Nat) (x1 : Int32) (x2 : Int32) (x3 : Int32) (x4 : Int32) : AO l g M_X12_complain false h0 36 [(0, .ref x0), (1, .int x1), (2, .int x2), (3, .int x3), (4, .int x4)] [] h 0 0 rSi (f_X12_complain_b36_body N K36 h x0 x1 x2 x3 x4) := by
  unfold f_X12_complain_b36_body
  refine a_iload dX12_complain_36 4 rfl ?_
  refine a_aload_n dX12_complain_38 rfl 0 rfl ?_
  refine a_geti kc13 55 dX12_complain_39 (by decide) rfl w_fieldLink_RainCoverModel_439 (fun v7 => ?_)
  refine a_icmp_ge 83 dX12_complain_42 (by decide) (fun c8 => ?_) (fun c8 => ?_)
  · refine a_iload_n dX12_complain_83 rfl 3 rfl ?_
    refine a_if_eq 90 dX12_complain_84 (by decide) (fun c9 => ?_) (fun c9 => ?_)
    · refine a_aload_n dX12_complain_90 rfl 0 rfl ?_
      refine a_geti kc13 55 dX12_complain_91 (by decide) rfl w_fieldLink_RainCoverModel_439 (fun v10 => ?_)
      refine a_bipush (v := 20) dX12_complain_94 (by decide) ?_
      refine a_icmp_ne 102 dX12_complain_96 (by decide) (fun c11 => ?_) (fun c11 => ?_)
      · refine a_bipush (v := (-4)) dX12_complain_99 (by decide) ?_
        exact a_iret dX12_complain_101 rfl rfl (by decide) (by decide)
      · refine a_aload_n dX12_complain_102 rfl 0 rfl ?_
        refine a_getr kc13 56 dX12_complain_103 (by decide) rfl w_fieldLink_RainCoverModel_151 (fun v12 => ?_)
        refine a_aload_n dX12_complain_106 rfl 0 rfl ?_
        refine a_geti kc13 55 dX12_complain_107 (by decide) rfl w_fieldLink_RainCoverModel_439 (fun v13 => ?_)
        refine a_iload_n dX12_complain_110 rfl 1 rfl ?_
        refine a_iast dX12_complain_111 (fun h14 => ?_)
        refine a_aload_n dX12_complain_112 rfl 0 rfl ?_
        refine a_getr kc13 57 dX12_complain_113 (by decide) rfl w_fieldLink_RainCoverModel_154 (fun v15 => ?_)
        refine a_aload_n dX12_complain_116 rfl 0 rfl ?_
        refine a_geti kc13 55 dX12_complain_117 (by decide) rfl w_fieldLink_RainCoverModel_439 (fun v16 => ?_)
        refine a_iload_n dX12_complain_120 rfl 2 rfl ?_
        refine a_iast dX12_complain_121 (fun h17 => ?_)
        refine a_aload_n dX12_complain_122 rfl 0 rfl ?_
        refine a_getr kc13 58 dX12_complain_123 (by decide) rfl w_fieldLink_RainCoverModel_157 (fun v18 => ?_)
        refine a_aload_n dX12_complain_126 rfl 0 rfl ?_
        refine a_geti kc13 55 dX12_complain_127 (by decide) rfl w_fieldLink_RainCoverModel_439 (fun v19 => ?_)
        refine a_aload_n dX12_complain_130 rfl 0 rfl ?_
        refine a_iload_n dX12_complain_131 rfl 1 rfl ?_
        refine a_iload_n dX12_complain_132 rfl 2 rfl ?_
        refine a_cV_Pi (r := x0) (ci := 13) (as := [.int x1, .int x2]) (st := [.int v19, .ref v18]) dX12_complain_133 (c_X12_termOf l g h17 N x0 x1 x2) rfl km_X12_termOf (hm_X12_termOf) rfl (by decide) rfl (fun _ ee => g_X12_termOf ee) w_methodLink_RainCoverModel_355 w_instanceMethod_RainCoverModel_termOf__II_I w_selects_RainCoverModel_RainCoverModel_termOf__II_I_RainCoverModel_termOf__II_I ⟨⟨by decide, by decide⟩, ⟨by decide, by decide⟩⟩ (Nat.le_of_ble_eq_true rfl) (fun v20 => ?_)
        refine a_iast dX12_complain_136 (fun h21 => ?_)
        refine a_aload_n dX12_complain_137 rfl 0 rfl ?_
        refine a_getr kc13 59 dX12_complain_138 (by decide) rfl w_fieldLink_RainCoverModel_160 (fun v22 => ?_)
        refine a_aload_n dX12_complain_141 rfl 0 rfl ?_
        refine a_geti kc13 55 dX12_complain_142 (by decide) rfl w_fieldLink_RainCoverModel_439 (fun v23 => ?_)
        refine a_iconst (v := 0) dX12_complain_145 (by decide) ?_
        refine a_iast dX12_complain_146 (fun h24 => ?_)
        refine a_aload_n dX12_complain_147 rfl 0 rfl ?_
        refine a_getr kc13 60 dX12_complain_148 (by decide) rfl w_fieldLink_RainCoverModel_163 (fun v25 => ?_)
        refine a_aload_n dX12_complain_151 rfl 0 rfl ?_
        refine a_geti kc13 55 dX12_complain_152 (by decide) rfl w_fieldLink_RainCoverModel_439 (fun v26 => ?_)
        refine a_iconst (v := (-1)) dX12_complain_155 (by decide) ?_
        refine a_iast dX12_complain_156 (fun h27 => ?_)
        refine a_aload_n dX12_complain_157 rfl 0 rfl ?_
        refine a_dup dX12_complain_158 rfl ?_
        refine a_geti kc13 55 dX12_complain_159 (by decide) rfl w_fieldLink_RainCoverModel_439 (fun v28 => ?_)
        refine a_iconst (v := 1) dX12_complain_162 (by decide) ?_
        refine a_iadd dX12_complain_163 ?_
        refine a_puti kc13 55 dX12_complain_164 (by decide) rfl w_fieldLink_RainCoverModel_439 rfl rfl (fun h29 => ?_)
        refine a_aload_n dX12_complain_167 rfl 0 rfl ?_
        refine a_geti kc13 55 dX12_complain_168 (by decide) rfl w_fieldLink_RainCoverModel_439 (fun v30 => ?_)
        refine a_iconst (v := 1) dX12_complain_171 (by decide) ?_
        refine a_isub dX12_complain_172 ?_
        exact a_iret dX12_complain_173 rfl rfl (by decide) (by decide)
    · refine a_bipush (v := (-3)) dX12_complain_87 (by decide) ?_
      exact a_iret dX12_complain_89 rfl rfl (by decide) (by decide)
  · refine a_iload_n dX12_complain_45 rfl 3 rfl ?_
    refine a_if_ne 71 dX12_complain_46 (by decide) (fun c31 => ?_) (fun c31 => ?_)
    · refine a_aload_n dX12_complain_49 rfl 0 rfl ?_
      refine a_getr kc13 56 dX12_complain_50 (by decide) rfl w_fieldLink_RainCoverModel_151 (fun v32 => ?_)
      refine a_iload dX12_complain_53 4 rfl ?_
      refine a_iald dX12_complain_55 (fun v33 => ?_)
      refine a_iload_n dX12_complain_56 rfl 1 rfl ?_
      refine a_icmp_ne 75 dX12_complain_57 (by decide) (fun c34 => ?_) (fun c34 => ?_)
      · refine a_aload_n dX12_complain_60 rfl 0 rfl ?_
        refine a_getr kc13 57 dX12_complain_61 (by decide) rfl w_fieldLink_RainCoverModel_154 (fun v35 => ?_)
        refine a_iload dX12_complain_64 4 rfl ?_
        refine a_iald dX12_complain_66 (fun v36 => ?_)
        refine a_iload_n dX12_complain_67 rfl 2 rfl ?_
        refine a_icmp_ne 75 dX12_complain_68 (by decide) (fun c37 => ?_) (fun c37 => ?_)
        · refine a_pick (lc2 := [(0, .ref x0), (1, .int x1), (2, .int x2), (4, .int x4)]) [0, 1, 2, 4] rfl ?_
          exact t_X12_complain_b71 h0 N K36 hK36 h x0 x1 x2 x4
        · refine a_pick (lc2 := [(0, .ref x0), (1, .int x1), (2, .int x2), (4, .int x4)]) [0, 1, 2, 4] rfl ?_
          exact t_X12_complain_b75 h0 N K36 hK36 h x0 x1 x2 x4
      · refine a_pick (lc2 := [(0, .ref x0), (1, .int x1), (2, .int x2), (4, .int x4)]) [0, 1, 2, 4] rfl ?_
        exact t_X12_complain_b75 h0 N K36 hK36 h x0 x1 x2 x4
    · refine a_pick (lc2 := [(0, .ref x0), (1, .int x1), (2, .int x2), (4, .int x4)]) [0, 1, 2, 4] rfl ?_
      exact t_X12_complain_b71 h0 N K36 hK36 h x0 x1 x2 x4
set_option maxRecDepth 100000 in
set_option maxHeartbeats 4000000 in
theorem t_X12_complain_b36 (h0 : AH) (N : Nat) : ∀ (n : Nat) (h : AH) (x0 : Nat) (x1 : Int32) (x2 : Int32) (x3 : Int32) (x4 : Int32) , AO l g M_X12_complain false h0 36 [(0, .ref x0), (1, .int x1), (2, .int x2), (3, .int x3), (4, .int x4)] [] h 0 0 rSi (f_X12_complain_b36 N  n h x0 x1 x2 x3 x4) := by
  intro n
  induction n with
  | zero => intro h x0 x1 x2 x3 x4; exact a_eq rfl a_none
  | succ n ih => intro h x0 x1 x2 x3 x4; exact a_eq rfl (t_X12_complain_b36_body h0 N  (f_X12_complain_b36 N  n) ih h x0 x1 x2 x3 x4)
set_option maxRecDepth 100000 in
set_option maxHeartbeats 4000000 in
theorem t_X12_complain_b32 (h0 : AH) (N : Nat) (h : AH) (x0 : Nat) (x1 : Int32) (x2 : Int32) (s3 : Int32) : AO l g M_X12_complain false h0 32 [(0, .ref x0), (1, .int x1), (2, .int x2)] [.int s3] h 0 0 rSi (f_X12_complain_b32 N  h x0 x1 x2 s3) := by
  unfold f_X12_complain_b32
  refine a_istore_n (lc2 := [(3, .int s3), (0, .ref x0), (1, .int x1), (2, .int x2)]) dX12_complain_32 rfl (by decide) rfl ?_
  refine a_iconst (v := 0) dX12_complain_33 (by decide) ?_
  refine a_istore (lc2 := [(4, .int 0), (3, .int s3), (0, .ref x0), (1, .int x1), (2, .int x2)]) dX12_complain_34 (by decide) rfl ?_
  refine a_pick (lc2 := [(0, .ref x0), (1, .int x1), (2, .int x2), (3, .int s3), (4, .int 0)]) [2, 3, 4, 1, 0] rfl ?_
  exact t_X12_complain_b36 h0 N N h x0 x1 x2 s3 0
end
set_option maxRecDepth 100000 in
set_option maxHeartbeats 4000000 in
theorem c_X12_complain (l : Launch) (g : GG) (h0 : AH) (N : Nat) (p0 : Nat) (p1 : Int32) (p2 : Int32) : CN l g yX12_complain M_X12_complain false [.ref p0, .int p1, .int p2] h0 rSi (f_X12_complain h0 N p0 p1 p2) := by
  refine CN.of (by decide) rfl (fun hh => by first | rfl | cases hh) (Nat.le_of_ble_eq_true rfl) ?_
  unfold f_X12_complain
  refine a_gd (fun hkd => ?_)
  refine a_aload_n dX12_complain_0 rfl 0 rfl ?_
  refine a_iload_n dX12_complain_1 rfl 1 rfl ?_
  refine a_cV_Pi (r := p0) (ci := 13) (as := [.int p1]) (st := []) dX12_complain_2 (c_X12_isFarm l g h0 p0 p1) rfl km_X12_isFarm (hm_X12_isFarm) rfl (by decide) rfl (fun _ ee => g_X12_isFarm ee) w_methodLink_RainCoverModel_346 w_instanceMethod_RainCoverModel_isFarm__I_Z w_selects_RainCoverModel_RainCoverModel_isFarm__I_Z_RainCoverModel_isFarm__I_Z ⟨⟨by decide, by decide⟩, ⟨by decide, by decide⟩⟩ (Nat.le_of_ble_eq_true rfl) (fun v1 => ?_)
  refine a_if_eq 15 dX12_complain_5 (by decide) (fun c2 => ?_) (fun c2 => ?_)
  · refine a_iconst (v := (-1)) dX12_complain_15 (by decide) ?_
    exact a_iret dX12_complain_16 rfl rfl (by decide) (by decide)
  · refine a_iload_n dX12_complain_8 rfl 2 rfl ?_
    refine a_cS_Pi (as := [.int p2]) (st := []) dX12_complain_9 (c_X12_isSeason l g h0 p2) rfl km_X12_isSeason (hm_X12_isSeason) w_methodLink_RainCoverModel_221 w_static_RainCoverModel_isSeason__I_Z ⟨⟨by decide, by decide⟩, ⟨by decide, by decide⟩⟩ (Nat.le_of_ble_eq_true rfl) (fun v3 => ?_)
    refine a_if_ne 17 dX12_complain_12 (by decide) (fun c4 => ?_) (fun c4 => ?_)
    · refine a_iconst (v := (-1)) dX12_complain_15 (by decide) ?_
      exact a_iret dX12_complain_16 rfl rfl (by decide) (by decide)
    · refine a_aload_n dX12_complain_17 rfl 0 rfl ?_
      refine a_iload_n dX12_complain_18 rfl 1 rfl ?_
      refine a_iload_n dX12_complain_19 rfl 2 rfl ?_
      refine a_cV_Pi (r := p0) (ci := 13) (as := [.int p1, .int p2]) (st := []) dX12_complain_20 (c_X12_termOf l g h0 N p0 p1 p2) rfl km_X12_termOf (hm_X12_termOf) rfl (by decide) rfl (fun _ ee => g_X12_termOf ee) w_methodLink_RainCoverModel_355 w_instanceMethod_RainCoverModel_termOf__II_I w_selects_RainCoverModel_RainCoverModel_termOf__II_I_RainCoverModel_termOf__II_I ⟨⟨by decide, by decide⟩, ⟨by decide, by decide⟩⟩ (Nat.le_of_ble_eq_true rfl) (fun v5 => ?_)
      refine a_iconst (v := (-1)) dX12_complain_23 (by decide) ?_
      refine a_icmp_ne 31 dX12_complain_24 (by decide) (fun c6 => ?_) (fun c6 => ?_)
      · refine a_iconst (v := 1) dX12_complain_27 (by decide) ?_
        refine a_goto 32 dX12_complain_28 (by decide) ?_
        exact t_X12_complain_b32 h0 N h0 p0 p1 p2 1
      · refine a_iconst (v := 0) dX12_complain_31 (by decide) ?_
        exact t_X12_complain_b32 h0 N h0 p0 p1 p2 0
theorem dX12_isKin_0 : decode cX12_isKin 0 = .ok (.aload_n 0, 1) := by decide +kernel
theorem dX12_isKin_1 : decode cX12_isKin 1 = .ok (.getfield 154, 3) := by decide +kernel
theorem dX12_isKin_4 : decode cX12_isKin 4 = .ok (.iload_n 1, 1) := by decide +kernel
theorem dX12_isKin_5 : decode cX12_isKin 5 = .ok (.iaload, 1) := by decide +kernel
theorem dX12_isKin_6 : decode cX12_isKin 6 = .ok (.istore_n 3, 1) := by decide +kernel
theorem dX12_isKin_7 : decode cX12_isKin 7 = .ok (.aload_n 0, 1) := by decide +kernel
theorem dX12_isKin_8 : decode cX12_isKin 8 = .ok (.aload_n 0, 1) := by decide +kernel
theorem dX12_isKin_9 : decode cX12_isKin 9 = .ok (.getfield 151, 3) := by decide +kernel
theorem dX12_isKin_12 : decode cX12_isKin 12 = .ok (.iload_n 1, 1) := by decide +kernel
theorem dX12_isKin_13 : decode cX12_isKin 13 = .ok (.iaload, 1) := by decide +kernel
theorem dX12_isKin_14 : decode cX12_isKin 14 = .ok (.iload_n 3, 1) := by decide +kernel
theorem dX12_isKin_15 : decode cX12_isKin 15 = .ok (.invokevirtual 349, 3) := by decide +kernel
theorem dX12_isKin_18 : decode cX12_isKin 18 = .ok (.istore 4, 2) := by decide +kernel
theorem dX12_isKin_20 : decode cX12_isKin 20 = .ok (.iload 4, 2) := by decide +kernel
theorem dX12_isKin_22 : decode cX12_isKin 22 = .ok (.iconst (-1), 1) := by decide +kernel
theorem dX12_isKin_23 : decode cX12_isKin 23 = .ok (.if_icmp .eq 33, 3) := by decide +kernel
theorem dX12_isKin_26 : decode cX12_isKin 26 = .ok (.aload_n 0, 1) := by decide +kernel
theorem dX12_isKin_27 : decode cX12_isKin 27 = .ok (.getfield 124, 3) := by decide +kernel
theorem dX12_isKin_30 : decode cX12_isKin 30 = .ok (.iload_n 2, 1) := by decide +kernel
theorem dX12_isKin_31 : decode cX12_isKin 31 = .ok (.iaload, 1) := by decide +kernel
theorem dX12_isKin_32 : decode cX12_isKin 32 = .ok (.iload_n 3, 1) := by decide +kernel
theorem dX12_isKin_33 : decode cX12_isKin 33 = .ok (.if_icmp .ne 23, 3) := by decide +kernel
theorem dX12_isKin_36 : decode cX12_isKin 36 = .ok (.aload_n 0, 1) := by decide +kernel
theorem dX12_isKin_37 : decode cX12_isKin 37 = .ok (.aload_n 0, 1) := by decide +kernel
theorem dX12_isKin_38 : decode cX12_isKin 38 = .ok (.getfield 121, 3) := by decide +kernel
theorem dX12_isKin_41 : decode cX12_isKin 41 = .ok (.iload_n 2, 1) := by decide +kernel
theorem dX12_isKin_42 : decode cX12_isKin 42 = .ok (.iaload, 1) := by decide +kernel
theorem dX12_isKin_43 : decode cX12_isKin 43 = .ok (.iload_n 3, 1) := by decide +kernel
theorem dX12_isKin_44 : decode cX12_isKin 44 = .ok (.invokevirtual 349, 3) := by decide +kernel
theorem dX12_isKin_47 : decode cX12_isKin 47 = .ok (.iload 4, 2) := by decide +kernel
theorem dX12_isKin_49 : decode cX12_isKin 49 = .ok (.if_icmp .ne 7, 3) := by decide +kernel
theorem dX12_isKin_52 : decode cX12_isKin 52 = .ok (.iconst 1, 1) := by decide +kernel
theorem dX12_isKin_53 : decode cX12_isKin 53 = .ok (.goto 4, 3) := by decide +kernel
theorem dX12_isKin_56 : decode cX12_isKin 56 = .ok (.iconst 0, 1) := by decide +kernel
theorem dX12_isKin_57 : decode cX12_isKin 57 = .ok (.ireturn, 1) := by decide +kernel
abbrev M_X12_isKin : MI := (RX12, cX12_isKin, 5, (some .boolean), ({ frames := 3, cells := 0, slots := 0, locals := 69 } : Room), 0, 0, false)
def f_X12_isKin (h : AH) (N : Nat) (p0 : Nat) (p1 : Int32) (p2 : Int32) : Option Int32 := if kd h p0 = 13 + 1 then (xgr h p0 13 57).bind fun v1 => (xia h v1 p1).bind fun v2 => (xgr h p0 13 56).bind fun v3 => (xia h v3 p1).bind fun v4 => (f_X12_gaugeOf h N p0 v4 v2).bind fun v5 => (if v5 = (-1) then some 0 else (xgr h p0 13 43).bind fun v7 => (xia h v7 p2).bind fun v8 => (if v8 = v2 then (xgr h p0 13 42).bind fun v10 => (xia h v10 p2).bind fun v11 => (f_X12_gaugeOf h N p0 v11 v2).bind fun v12 => (if v12 = v5 then some 1 else some 0) else some 0)) else none
theorem g_X12_isKin {h : AH} {N : Nat} {p0 : Nat} {p1 : Int32} {p2 : Int32} {x : Int32} (e : f_X12_isKin h N p0 p1 p2 = some x) : kd h p0 = 13 + 1 := by
  unfold f_X12_isKin at e
  by_cases hk : kd h p0 = 13 + 1
  · exact hk
  · rw [if_neg hk] at e
    cases e
theorem km_X12_isKin : KM yX12_isKin M_X12_isKin 2 := ⟨in_tb 1822 (by decide +kernel) rfl, in_tb 9 (by decide +kernel) rfl, by decide +kernel, rfl, rfl⟩
theorem hm_X12_isKin : M_X12_isKin.2.2.2.2.2.1 = 0 ∧ M_X12_isKin.2.2.2.2.2.2.1 = 0 := ⟨rfl, rfl⟩
section
variable {l : Launch} {g : GG}
end
set_option maxRecDepth 100000 in
set_option maxHeartbeats 4000000 in
theorem c_X12_isKin (l : Launch) (g : GG) (h : AH) (N : Nat) (p0 : Nat) (p1 : Int32) (p2 : Int32) : CN l g yX12_isKin M_X12_isKin false [.ref p0, .int p1, .int p2] h ((rPi h)) (f_X12_isKin h N p0 p1 p2) := by
  refine CN.of (by decide) rfl (fun hh => by first | rfl | cases hh) (Nat.le_of_ble_eq_true rfl) ?_
  unfold f_X12_isKin
  refine a_gd (fun hkd => ?_)
  refine a_aload_n dX12_isKin_0 rfl 0 rfl ?_
  refine a_getr kc13 57 dX12_isKin_1 (by decide) rfl w_fieldLink_RainCoverModel_154 (fun v1 => ?_)
  refine a_iload_n dX12_isKin_4 rfl 1 rfl ?_
  refine a_iald dX12_isKin_5 (fun v2 => ?_)
  refine a_istore_n (lc2 := [(3, .int v2), (0, .ref p0), (1, .int p1), (2, .int p2)]) dX12_isKin_6 rfl (by decide) rfl ?_
  refine a_aload_n dX12_isKin_7 rfl 1 rfl ?_
  refine a_aload_n dX12_isKin_8 rfl 1 rfl ?_
  refine a_getr kc13 56 dX12_isKin_9 (by decide) rfl w_fieldLink_RainCoverModel_151 (fun v3 => ?_)
  refine a_iload_n dX12_isKin_12 rfl 2 rfl ?_
  refine a_iald dX12_isKin_13 (fun v4 => ?_)
  refine a_iload_n dX12_isKin_14 rfl 0 rfl ?_
  refine a_cV_Pi (r := p0) (ci := 13) (as := [.int v4, .int v2]) (st := []) dX12_isKin_15 (c_X12_gaugeOf l g h N p0 v4 v2) rfl km_X12_gaugeOf (hm_X12_gaugeOf) rfl (by decide) rfl (fun _ ee => g_X12_gaugeOf ee) w_methodLink_RainCoverModel_349 w_instanceMethod_RainCoverModel_gaugeOf__II_I w_selects_RainCoverModel_RainCoverModel_gaugeOf__II_I_RainCoverModel_gaugeOf__II_I ⟨⟨by decide, by decide⟩, ⟨by decide, by decide⟩⟩ (Nat.le_of_ble_eq_true rfl) (fun v5 => ?_)
  refine a_istore (lc2 := [(4, .int v5), (3, .int v2), (0, .ref p0), (1, .int p1), (2, .int p2)]) dX12_isKin_18 (by decide) rfl ?_
  refine a_iload dX12_isKin_20 0 rfl ?_
  refine a_iconst (v := (-1)) dX12_isKin_22 (by decide) ?_
  refine a_icmp_eq 56 dX12_isKin_23 (by decide) (fun c6 => ?_) (fun c6 => ?_)
  · refine a_iconst (v := 0) dX12_isKin_56 (by decide) ?_
    exact a_zret dX12_isKin_57 rfl (Or.inl rfl) rfl (by decide) (by decide)
  · refine a_aload_n dX12_isKin_26 rfl 2 rfl ?_
    refine a_getr kc13 43 dX12_isKin_27 (by decide) rfl w_fieldLink_RainCoverModel_124 (fun v7 => ?_)
    refine a_iload_n dX12_isKin_30 rfl 4 rfl ?_
    refine a_iald dX12_isKin_31 (fun v8 => ?_)
    refine a_iload_n dX12_isKin_32 rfl 1 rfl ?_
    refine a_icmp_ne 56 dX12_isKin_33 (by decide) (fun c9 => ?_) (fun c9 => ?_)
    · refine a_aload_n dX12_isKin_36 rfl 2 rfl ?_
      refine a_aload_n dX12_isKin_37 rfl 2 rfl ?_
      refine a_getr kc13 42 dX12_isKin_38 (by decide) rfl w_fieldLink_RainCoverModel_121 (fun v10 => ?_)
      refine a_iload_n dX12_isKin_41 rfl 4 rfl ?_
      refine a_iald dX12_isKin_42 (fun v11 => ?_)
      refine a_iload_n dX12_isKin_43 rfl 1 rfl ?_
      refine a_cV_Pi (r := p0) (ci := 13) (as := [.int v11, .int v2]) (st := []) dX12_isKin_44 (c_X12_gaugeOf l g h N p0 v11 v2) rfl km_X12_gaugeOf (hm_X12_gaugeOf) rfl (by decide) rfl (fun _ ee => g_X12_gaugeOf ee) w_methodLink_RainCoverModel_349 w_instanceMethod_RainCoverModel_gaugeOf__II_I w_selects_RainCoverModel_RainCoverModel_gaugeOf__II_I_RainCoverModel_gaugeOf__II_I ⟨⟨by decide, by decide⟩, ⟨by decide, by decide⟩⟩ (Nat.le_of_ble_eq_true rfl) (fun v12 => ?_)
      refine a_iload dX12_isKin_47 0 rfl ?_
      refine a_icmp_ne 56 dX12_isKin_49 (by decide) (fun c13 => ?_) (fun c13 => ?_)
      · refine a_iconst (v := 1) dX12_isKin_52 (by decide) ?_
        refine a_goto 57 dX12_isKin_53 (by decide) ?_
        exact a_zret dX12_isKin_57 rfl (Or.inr rfl) rfl (by decide) (by decide)
      · refine a_iconst (v := 0) dX12_isKin_56 (by decide) ?_
        exact a_zret dX12_isKin_57 rfl (Or.inl rfl) rfl (by decide) (by decide)
    · refine a_iconst (v := 0) dX12_isKin_56 (by decide) ?_
      exact a_zret dX12_isKin_57 rfl (Or.inl rfl) rfl (by decide) (by decide)
theorem dX12_hurt_0 : decode cX12_hurt 0 = .ok (.aload_n 0, 1) := by decide +kernel
theorem dX12_hurt_1 : decode cX12_hurt 1 = .ok (.getfield 127, 3) := by decide +kernel
theorem dX12_hurt_4 : decode cX12_hurt 4 = .ok (.iload_n 2, 1) := by decide +kernel
theorem dX12_hurt_5 : decode cX12_hurt 5 = .ok (.iaload, 1) := by decide +kernel
theorem dX12_hurt_6 : decode cX12_hurt 6 = .ok (.aload_n 0, 1) := by decide +kernel
theorem dX12_hurt_7 : decode cX12_hurt 7 = .ok (.getfield 130, 3) := by decide +kernel
theorem dX12_hurt_10 : decode cX12_hurt 10 = .ok (.iload_n 2, 1) := by decide +kernel
theorem dX12_hurt_11 : decode cX12_hurt 11 = .ok (.iaload, 1) := by decide +kernel
theorem dX12_hurt_12 : decode cX12_hurt 12 = .ok (.isub, 1) := by decide +kernel
theorem dX12_hurt_13 : decode cX12_hurt 13 = .ok (.aload_n 0, 1) := by decide +kernel
theorem dX12_hurt_14 : decode cX12_hurt 14 = .ok (.iconst 0, 1) := by decide +kernel
theorem dX12_hurt_15 : decode cX12_hurt 15 = .ok (.aload_n 0, 1) := by decide +kernel
theorem dX12_hurt_16 : decode cX12_hurt 16 = .ok (.getfield 121, 3) := by decide +kernel
theorem dX12_hurt_19 : decode cX12_hurt 19 = .ok (.iload_n 2, 1) := by decide +kernel
theorem dX12_hurt_20 : decode cX12_hurt 20 = .ok (.iaload, 1) := by decide +kernel
theorem dX12_hurt_21 : decode cX12_hurt 21 = .ok (.aload_n 0, 1) := by decide +kernel
theorem dX12_hurt_22 : decode cX12_hurt 22 = .ok (.getfield 154, 3) := by decide +kernel
theorem dX12_hurt_25 : decode cX12_hurt 25 = .ok (.iload_n 1, 1) := by decide +kernel
theorem dX12_hurt_26 : decode cX12_hurt 26 = .ok (.iaload, 1) := by decide +kernel
theorem dX12_hurt_27 : decode cX12_hurt 27 = .ok (.aload_n 0, 1) := by decide +kernel
theorem dX12_hurt_28 : decode cX12_hurt 28 = .ok (.getfield 157, 3) := by decide +kernel
theorem dX12_hurt_31 : decode cX12_hurt 31 = .ok (.iload_n 1, 1) := by decide +kernel
theorem dX12_hurt_32 : decode cX12_hurt 32 = .ok (.iaload, 1) := by decide +kernel
theorem dX12_hurt_33 : decode cX12_hurt 33 = .ok (.invokevirtual 358, 3) := by decide +kernel
theorem dX12_hurt_36 : decode cX12_hurt 36 = .ok (.isub, 1) := by decide +kernel
theorem dX12_hurt_37 : decode cX12_hurt 37 = .ok (.ireturn, 1) := by decide +kernel
abbrev M_X12_hurt : MI := (RX12, cX12_hurt, 3, (some .int), ({ frames := 8, cells := 0, slots := 0, locals := 204 } : Room), 0, 0, false)
def f_X12_hurt (h : AH) (N : Nat) (p0 : Nat) (p1 : Int32) (p2 : Int32) : Option Int32 := if kd h p0 = 13 + 1 then (xgr h p0 13 44).bind fun v1 => (xia h v1 p2).bind fun v2 => (xgr h p0 13 45).bind fun v3 => (xia h v3 p2).bind fun v4 => (xgr h p0 13 42).bind fun v5 => (xia h v5 p2).bind fun v6 => (xgr h p0 13 57).bind fun v7 => (xia h v7 p1).bind fun v8 => (xgr h p0 13 58).bind fun v9 => (xia h v9 p1).bind fun v10 => (f_X12_farmPay h N p0 0 v6 v8 v10).bind fun v11 => some ((v2 - v4) - v11) else none
theorem g_X12_hurt {h : AH} {N : Nat} {p0 : Nat} {p1 : Int32} {p2 : Int32} {x : Int32} (e : f_X12_hurt h N p0 p1 p2 = some x) : kd h p0 = 13 + 1 := by
  unfold f_X12_hurt at e
  by_cases hk : kd h p0 = 13 + 1
  · exact hk
  · rw [if_neg hk] at e
    cases e
theorem km_X12_hurt : KM yX12_hurt M_X12_hurt 2 := ⟨in_tb 1826 (by decide +kernel) rfl, in_tb 9 (by decide +kernel) rfl, by decide +kernel, rfl, rfl⟩
theorem hm_X12_hurt : M_X12_hurt.2.2.2.2.2.1 = 0 ∧ M_X12_hurt.2.2.2.2.2.2.1 = 0 := ⟨rfl, rfl⟩
section
variable {l : Launch} {g : GG}
end
set_option maxRecDepth 100000 in
set_option maxHeartbeats 4000000 in
theorem c_X12_hurt (l : Launch) (g : GG) (h : AH) (N : Nat) (p0 : Nat) (p1 : Int32) (p2 : Int32) : CN l g yX12_hurt M_X12_hurt false [.ref p0, .int p1, .int p2] h ((rPi h)) (f_X12_hurt h N p0 p1 p2) := by
  refine CN.of (by decide) rfl (fun hh => by first | rfl | cases hh) (Nat.le_of_ble_eq_true rfl) ?_
  unfold f_X12_hurt
  refine a_gd (fun hkd => ?_)
  refine a_aload_n dX12_hurt_0 rfl 0 rfl ?_
  refine a_getr kc13 44 dX12_hurt_1 (by decide) rfl w_fieldLink_RainCoverModel_127 (fun v1 => ?_)
  refine a_iload_n dX12_hurt_4 rfl 2 rfl ?_
  refine a_iald dX12_hurt_5 (fun v2 => ?_)
  refine a_aload_n dX12_hurt_6 rfl 0 rfl ?_
  refine a_getr kc13 45 dX12_hurt_7 (by decide) rfl w_fieldLink_RainCoverModel_130 (fun v3 => ?_)
  refine a_iload_n dX12_hurt_10 rfl 2 rfl ?_
  refine a_iald dX12_hurt_11 (fun v4 => ?_)
  refine a_isub dX12_hurt_12 ?_
  refine a_aload_n dX12_hurt_13 rfl 0 rfl ?_
  refine a_iconst (v := 0) dX12_hurt_14 (by decide) ?_
  refine a_aload_n dX12_hurt_15 rfl 0 rfl ?_
  refine a_getr kc13 42 dX12_hurt_16 (by decide) rfl w_fieldLink_RainCoverModel_121 (fun v5 => ?_)
  refine a_iload_n dX12_hurt_19 rfl 2 rfl ?_
  refine a_iald dX12_hurt_20 (fun v6 => ?_)
  refine a_aload_n dX12_hurt_21 rfl 0 rfl ?_
  refine a_getr kc13 57 dX12_hurt_22 (by decide) rfl w_fieldLink_RainCoverModel_154 (fun v7 => ?_)
  refine a_iload_n dX12_hurt_25 rfl 1 rfl ?_
  refine a_iald dX12_hurt_26 (fun v8 => ?_)
  refine a_aload_n dX12_hurt_27 rfl 0 rfl ?_
  refine a_getr kc13 58 dX12_hurt_28 (by decide) rfl w_fieldLink_RainCoverModel_157 (fun v9 => ?_)
  refine a_iload_n dX12_hurt_31 rfl 1 rfl ?_
  refine a_iald dX12_hurt_32 (fun v10 => ?_)
  refine a_cV_Pi (r := p0) (ci := 13) (as := [.int 0, .int v6, .int v8, .int v10]) (st := [.int (v2 - v4)]) dX12_hurt_33 (c_X12_farmPay l g h N p0 0 v6 v8 v10) rfl km_X12_farmPay (hm_X12_farmPay) rfl (by decide) rfl (fun _ ee => g_X12_farmPay ee) w_methodLink_RainCoverModel_358 w_instanceMethod_RainCoverModel_farmPay__IIII_I w_selects_RainCoverModel_RainCoverModel_farmPay__IIII_I_RainCoverModel_farmPay__IIII_I ⟨⟨by decide, by decide⟩, ⟨by decide, by decide⟩⟩ (Nat.le_of_ble_eq_true rfl) (fun v11 => ?_)
  refine a_isub dX12_hurt_36 ?_
  exact a_iret dX12_hurt_37 rfl rfl (by decide) (by decide)
theorem dX12_judge_0 : decode cX12_judge 0 = .ok (.iload_n 1, 1) := by decide +kernel
theorem dX12_judge_1 : decode cX12_judge 1 = .ok (.iconst 0, 1) := by decide +kernel
theorem dX12_judge_2 : decode cX12_judge 2 = .ok (.aload_n 0, 1) := by decide +kernel
theorem dX12_judge_3 : decode cX12_judge 3 = .ok (.getfield 439, 3) := by decide +kernel
theorem dX12_judge_6 : decode cX12_judge 6 = .ok (.iconst 1, 1) := by decide +kernel
theorem dX12_judge_7 : decode cX12_judge 7 = .ok (.isub, 1) := by decide +kernel
theorem dX12_judge_8 : decode cX12_judge 8 = .ok (.invokestatic 204, 3) := by decide +kernel
theorem dX12_judge_11 : decode cX12_judge 11 = .ok (.ifCond .ne 5, 3) := by decide +kernel
theorem dX12_judge_14 : decode cX12_judge 14 = .ok (.iconst (-1), 1) := by decide +kernel
theorem dX12_judge_15 : decode cX12_judge 15 = .ok (.ireturn, 1) := by decide +kernel
theorem dX12_judge_16 : decode cX12_judge 16 = .ok (.aload_n 0, 1) := by decide +kernel
theorem dX12_judge_17 : decode cX12_judge 17 = .ok (.getfield 160, 3) := by decide +kernel
theorem dX12_judge_20 : decode cX12_judge 20 = .ok (.iload_n 1, 1) := by decide +kernel
theorem dX12_judge_21 : decode cX12_judge 21 = .ok (.iaload, 1) := by decide +kernel
theorem dX12_judge_22 : decode cX12_judge 22 = .ok (.ifCond .eq 6, 3) := by decide +kernel
theorem dX12_judge_25 : decode cX12_judge 25 = .ok (.bipush (-3), 2) := by decide +kernel
theorem dX12_judge_27 : decode cX12_judge 27 = .ok (.ireturn, 1) := by decide +kernel
theorem dX12_judge_28 : decode cX12_judge 28 = .ok (.iconst 0, 1) := by decide +kernel
theorem dX12_judge_29 : decode cX12_judge 29 = .ok (.istore_n 2, 1) := by decide +kernel
theorem dX12_judge_30 : decode cX12_judge 30 = .ok (.iconst 0, 1) := by decide +kernel
theorem dX12_judge_31 : decode cX12_judge 31 = .ok (.istore_n 3, 1) := by decide +kernel
theorem dX12_judge_32 : decode cX12_judge 32 = .ok (.iconst 0, 1) := by decide +kernel
theorem dX12_judge_33 : decode cX12_judge 33 = .ok (.istore 4, 2) := by decide +kernel
theorem dX12_judge_35 : decode cX12_judge 35 = .ok (.iload 4, 2) := by decide +kernel
theorem dX12_judge_37 : decode cX12_judge 37 = .ok (.aload_n 0, 1) := by decide +kernel
theorem dX12_judge_38 : decode cX12_judge 38 = .ok (.getfield 364, 3) := by decide +kernel
theorem dX12_judge_41 : decode cX12_judge 41 = .ok (.if_icmp .ge 63, 3) := by decide +kernel
theorem dX12_judge_44 : decode cX12_judge 44 = .ok (.aload_n 0, 1) := by decide +kernel
theorem dX12_judge_45 : decode cX12_judge 45 = .ok (.iload_n 1, 1) := by decide +kernel
theorem dX12_judge_46 : decode cX12_judge 46 = .ok (.iload 4, 2) := by decide +kernel
theorem dX12_judge_48 : decode cX12_judge 48 = .ok (.invokevirtual 442, 3) := by decide +kernel
theorem dX12_judge_51 : decode cX12_judge 51 = .ok (.ifCond .eq 47, 3) := by decide +kernel
theorem dX12_judge_54 : decode cX12_judge 54 = .ok (.aload_n 0, 1) := by decide +kernel
theorem dX12_judge_55 : decode cX12_judge 55 = .ok (.iload_n 1, 1) := by decide +kernel
theorem dX12_judge_56 : decode cX12_judge 56 = .ok (.iload 4, 2) := by decide +kernel
theorem dX12_judge_58 : decode cX12_judge 58 = .ok (.invokevirtual 445, 3) := by decide +kernel
theorem dX12_judge_61 : decode cX12_judge 61 = .ok (.istore 5, 2) := by decide +kernel
theorem dX12_judge_63 : decode cX12_judge 63 = .ok (.iload_n 2, 1) := by decide +kernel
theorem dX12_judge_64 : decode cX12_judge 64 = .ok (.iload 5, 2) := by decide +kernel
theorem dX12_judge_66 : decode cX12_judge 66 = .ok (.ifCond .le 7, 3) := by decide +kernel
theorem dX12_judge_69 : decode cX12_judge 69 = .ok (.iconst 1, 1) := by decide +kernel
theorem dX12_judge_70 : decode cX12_judge 70 = .ok (.goto 4, 3) := by decide +kernel
theorem dX12_judge_73 : decode cX12_judge 73 = .ok (.iconst (-1), 1) := by decide +kernel
theorem dX12_judge_74 : decode cX12_judge 74 = .ok (.iadd, 1) := by decide +kernel
theorem dX12_judge_75 : decode cX12_judge 75 = .ok (.istore_n 2, 1) := by decide +kernel
theorem dX12_judge_76 : decode cX12_judge 76 = .ok (.iload 5, 2) := by decide +kernel
theorem dX12_judge_78 : decode cX12_judge 78 = .ok (.ifCond .le 18, 3) := by decide +kernel
theorem dX12_judge_81 : decode cX12_judge 81 = .ok (.iload_n 3, 1) := by decide +kernel
theorem dX12_judge_82 : decode cX12_judge 82 = .ok (.ifCond .eq 9, 3) := by decide +kernel
theorem dX12_judge_85 : decode cX12_judge 85 = .ok (.iload 5, 2) := by decide +kernel
theorem dX12_judge_87 : decode cX12_judge 87 = .ok (.iload_n 3, 1) := by decide +kernel
theorem dX12_judge_88 : decode cX12_judge 88 = .ok (.if_icmp .ge 8, 3) := by decide +kernel
theorem dX12_judge_91 : decode cX12_judge 91 = .ok (.iload 5, 2) := by decide +kernel
theorem dX12_judge_93 : decode cX12_judge 93 = .ok (.goto 4, 3) := by decide +kernel
theorem dX12_judge_96 : decode cX12_judge 96 = .ok (.iload_n 3, 1) := by decide +kernel
theorem dX12_judge_97 : decode cX12_judge 97 = .ok (.istore_n 3, 1) := by decide +kernel
theorem dX12_judge_98 : decode cX12_judge 98 = .ok (.iinc 4 1, 3) := by decide +kernel
theorem dX12_judge_101 : decode cX12_judge 101 = .ok (.goto (-66), 3) := by decide +kernel
theorem dX12_judge_104 : decode cX12_judge 104 = .ok (.iload_n 2, 1) := by decide +kernel
theorem dX12_judge_105 : decode cX12_judge 105 = .ok (.ifCond .le 16, 3) := by decide +kernel
theorem dX12_judge_108 : decode cX12_judge 108 = .ok (.aload_n 0, 1) := by decide +kernel
theorem dX12_judge_109 : decode cX12_judge 109 = .ok (.getfield 421, 3) := by decide +kernel
theorem dX12_judge_112 : decode cX12_judge 112 = .ok (.sipush 200, 3) := by decide +kernel
theorem dX12_judge_115 : decode cX12_judge 115 = .ok (.if_icmp .ne 6, 3) := by decide +kernel
theorem dX12_judge_118 : decode cX12_judge 118 = .ok (.bipush (-4), 2) := by decide +kernel
theorem dX12_judge_120 : decode cX12_judge 120 = .ok (.ireturn, 1) := by decide +kernel
theorem dX12_judge_121 : decode cX12_judge 121 = .ok (.aload_n 0, 1) := by decide +kernel
theorem dX12_judge_122 : decode cX12_judge 122 = .ok (.getfield 160, 3) := by decide +kernel
theorem dX12_judge_125 : decode cX12_judge 125 = .ok (.iload_n 1, 1) := by decide +kernel
theorem dX12_judge_126 : decode cX12_judge 126 = .ok (.iload_n 2, 1) := by decide +kernel
theorem dX12_judge_127 : decode cX12_judge 127 = .ok (.ifCond .le 7, 3) := by decide +kernel
theorem dX12_judge_130 : decode cX12_judge 130 = .ok (.iconst 1, 1) := by decide +kernel
theorem dX12_judge_131 : decode cX12_judge 131 = .ok (.goto 4, 3) := by decide +kernel
theorem dX12_judge_134 : decode cX12_judge 134 = .ok (.iconst 2, 1) := by decide +kernel
theorem dX12_judge_135 : decode cX12_judge 135 = .ok (.iastore, 1) := by decide +kernel
theorem dX12_judge_136 : decode cX12_judge 136 = .ok (.iload_n 2, 1) := by decide +kernel
theorem dX12_judge_137 : decode cX12_judge 137 = .ok (.ifCond .gt 5, 3) := by decide +kernel
theorem dX12_judge_140 : decode cX12_judge 140 = .ok (.iconst 0, 1) := by decide +kernel
theorem dX12_judge_141 : decode cX12_judge 141 = .ok (.ireturn, 1) := by decide +kernel
theorem dX12_judge_142 : decode cX12_judge 142 = .ok (.aload_n 0, 1) := by decide +kernel
theorem dX12_judge_143 : decode cX12_judge 143 = .ok (.getfield 163, 3) := by decide +kernel
theorem dX12_judge_146 : decode cX12_judge 146 = .ok (.iload_n 1, 1) := by decide +kernel
theorem dX12_judge_147 : decode cX12_judge 147 = .ok (.aload_n 0, 1) := by decide +kernel
theorem dX12_judge_148 : decode cX12_judge 148 = .ok (.getfield 421, 3) := by decide +kernel
theorem dX12_judge_151 : decode cX12_judge 151 = .ok (.iastore, 1) := by decide +kernel
theorem dX12_judge_152 : decode cX12_judge 152 = .ok (.aload_n 0, 1) := by decide +kernel
theorem dX12_judge_153 : decode cX12_judge 153 = .ok (.aload_n 0, 1) := by decide +kernel
theorem dX12_judge_154 : decode cX12_judge 154 = .ok (.getfield 151, 3) := by decide +kernel
theorem dX12_judge_157 : decode cX12_judge 157 = .ok (.iload_n 1, 1) := by decide +kernel
theorem dX12_judge_158 : decode cX12_judge 158 = .ok (.iaload, 1) := by decide +kernel
theorem dX12_judge_159 : decode cX12_judge 159 = .ok (.aload_n 0, 1) := by decide +kernel
theorem dX12_judge_160 : decode cX12_judge 160 = .ok (.getfield 154, 3) := by decide +kernel
theorem dX12_judge_163 : decode cX12_judge 163 = .ok (.iload_n 1, 1) := by decide +kernel
theorem dX12_judge_164 : decode cX12_judge 164 = .ok (.iaload, 1) := by decide +kernel
theorem dX12_judge_165 : decode cX12_judge 165 = .ok (.aload_n 0, 1) := by decide +kernel
theorem dX12_judge_166 : decode cX12_judge 166 = .ok (.getfield 91, 3) := by decide +kernel
theorem dX12_judge_169 : decode cX12_judge 169 = .ok (.aload_n 0, 1) := by decide +kernel
theorem dX12_judge_170 : decode cX12_judge 170 = .ok (.getfield 151, 3) := by decide +kernel
theorem dX12_judge_173 : decode cX12_judge 173 = .ok (.iload_n 1, 1) := by decide +kernel
theorem dX12_judge_174 : decode cX12_judge 174 = .ok (.iaload, 1) := by decide +kernel
theorem dX12_judge_175 : decode cX12_judge 175 = .ok (.iaload, 1) := by decide +kernel
theorem dX12_judge_176 : decode cX12_judge 176 = .ok (.iload_n 3, 1) := by decide +kernel
theorem dX12_judge_177 : decode cX12_judge 177 = .ok (.imul, 1) := by decide +kernel
theorem dX12_judge_178 : decode cX12_judge 178 = .ok (.invokevirtual 427, 3) := by decide +kernel
theorem dX12_judge_181 : decode cX12_judge 181 = .ok (.iconst 1, 1) := by decide +kernel
theorem dX12_judge_182 : decode cX12_judge 182 = .ok (.ireturn, 1) := by decide +kernel
abbrev M_X12_judge : MI := (RX12, cX12_judge, 6, (some .int), ({ frames := 9, cells := 0, slots := 0, locals := 226 } : Room), 0, 0, false)
def f_X12_judge_b98 (N : Nat) (K35 : AH → Nat → Int32 → Int32 → Int32 → Int32 → Option (Int32 × AH)) (h : AH) (x0 : Nat) (x1 : Int32) (x2 : Int32) (x3 : Int32) (x4 : Int32) : Option (Int32 × AH) := K35 h x0 x1 x2 x3 (x4 + 1)
def f_X12_judge_b97 (N : Nat) (K35 : AH → Nat → Int32 → Int32 → Int32 → Int32 → Option (Int32 × AH)) (h : AH) (x0 : Nat) (x1 : Int32) (x2 : Int32) (x4 : Int32) (s4 : Int32) : Option (Int32 × AH) := f_X12_judge_b98 N K35 h x0 x1 x2 s4 x4
def f_X12_judge_b91 (N : Nat) (K35 : AH → Nat → Int32 → Int32 → Int32 → Int32 → Option (Int32 × AH)) (h : AH) (x0 : Nat) (x1 : Int32) (x2 : Int32) (x4 : Int32) (x5 : Int32) : Option (Int32 × AH) := f_X12_judge_b97 N K35 h x0 x1 x2 x4 x5
def f_X12_judge_b96 (N : Nat) (K35 : AH → Nat → Int32 → Int32 → Int32 → Int32 → Option (Int32 × AH)) (h : AH) (x0 : Nat) (x1 : Int32) (x2 : Int32) (x3 : Int32) (x4 : Int32) : Option (Int32 × AH) := f_X12_judge_b97 N K35 h x0 x1 x2 x4 x3
def f_X12_judge_b74 (N : Nat) (K35 : AH → Nat → Int32 → Int32 → Int32 → Int32 → Option (Int32 × AH)) (h : AH) (x0 : Nat) (x1 : Int32) (x3 : Int32) (x4 : Int32) (x5 : Int32) (s5 : Int32) (s6 : Int32) : Option (Int32 × AH) := (if x5 ≤ 0 then f_X12_judge_b96 N K35 h x0 x1 (s6 + s5) x3 x4 else (if x3 = 0 then f_X12_judge_b91 N K35 h x0 x1 (s6 + s5) x4 x5 else (if x3 ≤ x5 then f_X12_judge_b96 N K35 h x0 x1 (s6 + s5) x3 x4 else f_X12_judge_b91 N K35 h x0 x1 (s6 + s5) x4 x5)))
def f_X12_judge_b135 (N : Nat) (h : AH) (x0 : Nat) (x1 : Int32) (x2 : Int32) (x3 : Int32) (s4 : Int32) (s5 : Int32) (s6 : Nat) : Option (Int32 × AH) := (xis h s6 s5 s4).bind fun h21 => (if 0 < x2 then (xgr h21 x0 13 60).bind fun v23 => (xgi h21 x0 13 49).bind fun v24 => (xis h21 v23 x1 v24).bind fun h25 => (xgr h25 x0 13 56).bind fun v26 => (xia h25 v26 x1).bind fun v27 => (xgr h25 x0 13 57).bind fun v28 => (xia h25 v28 x1).bind fun v29 => (xgr h25 x0 13 30).bind fun v30 => (xgr h25 x0 13 56).bind fun v31 => (xia h25 v31 x1).bind fun v32 => (xia h25 v30 v32).bind fun v33 => (f_X12_pays h25 x0 v27 v29 (v33 * x3)).bind fun q34 => some (1, q34) else some (0, h21))
def f_X12_judge_b121 (N : Nat) (h : AH) (x0 : Nat) (x1 : Int32) (x2 : Int32) (x3 : Int32) : Option (Int32 × AH) := (xgr h x0 13 59).bind fun v19 => (if x2 ≤ 0 then f_X12_judge_b135 N h x0 x1 x2 x3 2 x1 v19 else f_X12_judge_b135 N h x0 x1 x2 x3 1 x1 v19)
def f_X12_judge_b35_body (N : Nat) (K35 : AH → Nat → Int32 → Int32 → Int32 → Int32 → Option (Int32 × AH)) (h : AH) (x0 : Nat) (x1 : Int32) (x2 : Int32) (x3 : Int32) (x4 : Int32) : Option (Int32 × AH) := (xgi h x0 13 41).bind fun v7 => (if v7 ≤ x4 then (if x2 ≤ 0 then f_X12_judge_b121 N h x0 x1 x2 x3 else (xgi h x0 13 49).bind fun v10 => (if v10 = 200 then some ((-4), h) else f_X12_judge_b121 N h x0 x1 x2 x3)) else (f_X12_isKin h N x0 x1 x4).bind fun v12 => (if v12 = 0 then f_X12_judge_b98 N K35 h x0 x1 x2 x3 x4 else (f_X12_hurt h N x0 x1 x4).bind fun v14 => (if v14 ≤ 0 then f_X12_judge_b74 N K35 h x0 x1 x3 x4 v14 (-1) x2 else f_X12_judge_b74 N K35 h x0 x1 x3 x4 v14 1 x2)))
def f_X12_judge_b35 (N : Nat) : Nat → AH → Nat → Int32 → Int32 → Int32 → Int32 → Option (Int32 × AH)
  | 0, _, _, _, _, _, _ => none
  | n + 1, h, x0, x1, x2, x3, x4 => f_X12_judge_b35_body N  (f_X12_judge_b35 N  n) h x0 x1 x2 x3 x4
def f_X12_judge (h0 : AH) (N : Nat) (p0 : Nat) (p1 : Int32) : Option (Int32 × AH) := if kd h0 p0 = 13 + 1 then (xgi h0 p0 13 55).bind fun v1 => (f_X12_in h0 p1 0 (v1 - 1)).bind fun v2 => (if v2 = 0 then some ((-1), h0) else (xgr h0 p0 13 59).bind fun v4 => (xia h0 v4 p1).bind fun v5 => (if v5 = 0 then f_X12_judge_b35 N N h0 p0 p1 0 0 0 else some ((-3), h0))) else none
theorem g_X12_judge {h0 : AH} {N : Nat} {p0 : Nat} {p1 : Int32} {x : (Int32 × AH)} (e : f_X12_judge h0 N p0 p1 = some x) : kd h0 p0 = 13 + 1 := by
  unfold f_X12_judge at e
  by_cases hk : kd h0 p0 = 13 + 1
  · exact hk
  · rw [if_neg hk] at e
    cases e
theorem km_X12_judge : KM yX12_judge M_X12_judge 1 := ⟨in_tb 1818 (by decide +kernel) rfl, in_tb 9 (by decide +kernel) rfl, by decide +kernel, rfl, rfl⟩
theorem hm_X12_judge : M_X12_judge.2.2.2.2.2.1 = 0 ∧ M_X12_judge.2.2.2.2.2.2.1 = 0 := ⟨rfl, rfl⟩
section
variable {l : Launch} {g : GG}
set_option maxRecDepth 100000 in
set_option maxHeartbeats 4000000 in
theorem t_X12_judge_b98 (h0 : AH) (N : Nat) (K35 : AH → Nat → Int32 → Int32 → Int32 → Int32 → Option (Int32 × AH)) (hK35 : ∀ (z : AH) (z0 : Nat) (z1 : Int32) (z2 : Int32) (z3 : Int32) (z4 : Int32), AO l g M_X12_judge false h0 35 [(0, .ref z0), (1, .int z1), (2, .int z2), (3, .int z3), (4, .int z4)] [] z 0 0 rSi (K35 z z0 z1 z2 z3 z4)) (h : AH) (x0 : Nat) (x1 : Int32) (x2 : Int32) (x3 : Int32) (x4 : Int32) : AO l g M_X12_judge false h0 98 [(0, .ref x0), (1, .int x1), (2, .int x2), (3, .int x3), (4, .int x4)] [] h 0 0 rSi (f_X12_judge_b98 N K35 h x0 x1 x2 x3 x4) := by
  unfold f_X12_judge_b98
  refine a_iinc (q := 4) (v := (x4 + 1)) (lc2 := [(4, .int (x4 + 1)), (0, .ref x0), (1, .int x1), (2, .int x2), (3, .int x3)]) dX12_judge_98 rfl rfl (by decide) rfl ?_
  refine a_goto 35 dX12_judge_101 (by decide) ?_
  refine a_pick (lc2 := [(0, .ref x0), (1, .int x1), (2, .int x2), (3, .int x3), (4, .int (x4 + 1))]) [1, 2, 3, 4, 0] rfl ?_
  exact hK35 h x0 x1 x2 x3 (x4 + 1)
set_option maxRecDepth 100000 in
set_option maxHeartbeats 4000000 in
theorem t_X12_judge_b97 (h0 : AH) (N : Nat) (K35 : AH → Nat → Int32 → Int32 → Int32 → Int32 → Option (Int32 × AH)) (hK35 : ∀ (z : AH) (z0 : Nat) (z1 : Int32) (z2 : Int32) (z3 : Int32) (z4 : Int32), AO l g M_X12_judge false h0 35 [(0, .ref z0), (1, .int z1), (2, .int z2), (3, .int z3), (4, .int z4)] [] z 0 0 rSi (K35 z z0 z1 z2 z3 z4)) (h : AH) (x0 : Nat) (x1 : Int32) (x2 : Int32) (x4 : Int32) (s4 : Int32) : AO l g M_X12_judge false h0 97 [(0, .ref x0), (1, .int x1), (2, .int x2), (4, .int x4)] [.int s4] h 0 0 rSi (f_X12_judge_b97 N K35 h x0 x1 x2 x4 s4) := by
  unfold f_X12_judge_b97
  refine a_istore_n (lc2 := [(3, .int s4), (0, .ref x0), (1, .int x1), (2, .int x2), (4, .int x4)]) dX12_judge_97 rfl (by decide) rfl ?_
  refine a_pick (lc2 := [(0, .ref x0), (1, .int x1), (2, .int x2), (3, .int s4), (4, .int x4)]) [1, 2, 3, 0, 4] rfl ?_
  exact t_X12_judge_b98 h0 N K35 hK35 h x0 x1 x2 s4 x4
set_option maxRecDepth 100000 in
set_option maxHeartbeats 4000000 in
theorem t_X12_judge_b91 (h0 : AH) (N : Nat) (K35 : AH → Nat → Int32 → Int32 → Int32 → Int32 → Option (Int32 × AH)) (hK35 : ∀ (z : AH) (z0 : Nat) (z1 : Int32) (z2 : Int32) (z3 : Int32) (z4 : Int32), AO l g M_X12_judge false h0 35 [(0, .ref z0), (1, .int z1), (2, .int z2), (3, .int z3), (4, .int z4)] [] z 0 0 rSi (K35 z z0 z1 z2 z3 z4)) (h : AH) (x0 : Nat) (x1 : Int32) (x2 : Int32) (x4 : Int32) (x5 : Int32) : AO l g M_X12_judge false h0 91 [(0, .ref x0), (1, .int x1), (2, .int x2), (4, .int x4), (5, .int x5)] [] h 0 0 rSi (f_X12_judge_b91 N K35 h x0 x1 x2 x4 x5) := by
  unfold f_X12_judge_b91
  refine a_iload dX12_judge_91 4 rfl ?_
  refine a_goto 97 dX12_judge_93 (by decide) ?_
  refine a_pick (lc2 := [(0, .ref x0), (1, .int x1), (2, .int x2), (4, .int x4)]) [0, 1, 2, 3] rfl ?_
  exact t_X12_judge_b97 h0 N K35 hK35 h x0 x1 x2 x4 x5
set_option maxRecDepth 100000 in
set_option maxHeartbeats 4000000 in
theorem t_X12_judge_b96 (h0 : AH) (N : Nat) (K35 : AH → Nat → Int32 → Int32 → Int32 → Int32 → Option (Int32 × AH)) (hK35 : ∀ (z : AH) (z0 : Nat) (z1 : Int32) (z2 : Int32) (z3 : Int32) (z4 : Int32), AO l g M_X12_judge false h0 35 [(0, .ref z0), (1, .int z1), (2, .int z2), (3, .int z3), (4, .int z4)] [] z 0 0 rSi (K35 z z0 z1 z2 z3 z4)) (h : AH) (x0 : Nat) (x1 : Int32) (x2 : Int32) (x3 : Int32) (x4 : Int32) : AO l g M_X12_judge false h0 96 [(0, .ref x0), (1, .int x1), (2, .int x2), (3, .int x3), (4, .int x4)] [] h 0 0 rSi (f_X12_judge_b96 N K35 h x0 x1 x2 x3 x4) := by
  unfold f_X12_judge_b96
  refine a_iload_n dX12_judge_96 rfl 3 rfl ?_
  refine a_pick (lc2 := [(0, .ref x0), (1, .int x1), (2, .int x2), (4, .int x4)]) [0, 1, 2, 4] rfl ?_
  exact t_X12_judge_b97 h0 N K35 hK35 h x0 x1 x2 x4 x3
set_option maxRecDepth 100000 in
set_option maxHeartbeats 4000000 in
theorem t_X12_judge_b74 (h0 : AH) (N : Nat) (K35 : AH → Nat → Int32 → Int32 → Int32 → Int32 → Option (Int32 × AH)) (hK35 : ∀ (z : AH) (z0 : Nat) (z1 : Int32) (z2 : Int32) (z3 : Int32) (z4 : Int32), AO l g M_X12_judge false h0 35 [(0, .ref z0), (1, .int z1), (2, .int z2), (3, .int z3), (4, .int z4)] [] z 0 0 rSi (K35 z z0 z1 z2 z3 z4)) (h : AH) (x0 : Nat) (x1 : Int32) (x3 : Int32) (x4 : Int32) (x5 : Int32) (s5 : Int32) (s6 : Int32) : AO l g M_X12_judge false h0 74 [(0, .ref x0), (1, .int x1), (3, .int x3), (4, .int x4), (5, .int x5)] [.int s5, .int s6] h 0 0 rSi (f_X12_judge_b74 N K35 h x0 x1 x3 x4 x5 s5 s6) := by
  unfold f_X12_judge_b74
  refine a_iadd dX12_judge_74 ?_
  refine a_istore_n (lc2 := [(2, .int (s6 + s5)), (0, .ref x0), (1, .int x1), (3, .int x3), (4, .int x4), (5, .int x5)]) dX12_judge_75 rfl (by decide) rfl ?_
  refine a_iload dX12_judge_76 5 rfl ?_
  refine a_if_le 96 dX12_judge_78 (by decide) (fun c16 => ?_) (fun c16 => ?_)
  · refine a_pick (lc2 := [(0, .ref x0), (1, .int x1), (2, .int (s6 + s5)), (3, .int x3), (4, .int x4)]) [1, 2, 0, 3, 4] rfl ?_
    exact t_X12_judge_b96 h0 N K35 hK35 h x0 x1 (s6 + s5) x3 x4
  · refine a_iload_n dX12_judge_81 rfl 3 rfl ?_
    refine a_if_eq 91 dX12_judge_82 (by decide) (fun c17 => ?_) (fun c17 => ?_)
    · refine a_pick (lc2 := [(0, .ref x0), (1, .int x1), (2, .int (s6 + s5)), (4, .int x4), (5, .int x5)]) [1, 2, 0, 4, 5] rfl ?_
      exact t_X12_judge_b91 h0 N K35 hK35 h x0 x1 (s6 + s5) x4 x5
    · refine a_iload dX12_judge_85 5 rfl ?_
      refine a_iload_n dX12_judge_87 rfl 3 rfl ?_
      refine a_icmp_ge 96 dX12_judge_88 (by decide) (fun c18 => ?_) (fun c18 => ?_)
      · refine a_pick (lc2 := [(0, .ref x0), (1, .int x1), (2, .int (s6 + s5)), (3, .int x3), (4, .int x4)]) [1, 2, 0, 3, 4] rfl ?_
        exact t_X12_judge_b96 h0 N K35 hK35 h x0 x1 (s6 + s5) x3 x4
      · refine a_pick (lc2 := [(0, .ref x0), (1, .int x1), (2, .int (s6 + s5)), (4, .int x4), (5, .int x5)]) [1, 2, 0, 4, 5] rfl ?_
        exact t_X12_judge_b91 h0 N K35 hK35 h x0 x1 (s6 + s5) x4 x5
set_option maxRecDepth 100000 in
set_option maxHeartbeats 4000000 in
theorem t_X12_judge_b135 (h0 : AH) (N : Nat) (h : AH) (x0 : Nat) (x1 : Int32) (x2 : Int32) (x3 : Int32) (s4 : Int32) (s5 : Int32) (s6 : Nat) : AO l g M_X12_judge false h0 135 [(0, .ref x0), (1, .int x1), (2, .int x2), (3, .int x3)] [.int s4, .int s5, .ref s6] h 0 0 rSi (f_X12_judge_b135 N  h x0 x1 x2 x3 s4 s5 s6) := by
  unfold f_X12_judge_b135
  refine a_iast dX12_judge_135 (fun h21 => ?_)
  refine a_iload_n dX12_judge_136 rfl 2 rfl ?_
  refine a_if_gt 142 dX12_judge_137 (by decide) (fun c22 => ?_) (fun c22 => ?_)
  · refine a_aload_n dX12_judge_142 rfl 0 rfl ?_
    refine a_getr kc13 60 dX12_judge_143 (by decide) rfl w_fieldLink_RainCoverModel_163 (fun v23 => ?_)
    refine a_iload_n dX12_judge_146 rfl 1 rfl ?_
    refine a_aload_n dX12_judge_147 rfl 0 rfl ?_
    refine a_geti kc13 49 dX12_judge_148 (by decide) rfl w_fieldLink_RainCoverModel_421 (fun v24 => ?_)
    refine a_iast dX12_judge_151 (fun h25 => ?_)
    refine a_aload_n dX12_judge_152 rfl 0 rfl ?_
    refine a_aload_n dX12_judge_153 rfl 0 rfl ?_
    refine a_getr kc13 56 dX12_judge_154 (by decide) rfl w_fieldLink_RainCoverModel_151 (fun v26 => ?_)
    refine a_iload_n dX12_judge_157 rfl 1 rfl ?_
    refine a_iald dX12_judge_158 (fun v27 => ?_)
    refine a_aload_n dX12_judge_159 rfl 0 rfl ?_
    refine a_getr kc13 57 dX12_judge_160 (by decide) rfl w_fieldLink_RainCoverModel_154 (fun v28 => ?_)
    refine a_iload_n dX12_judge_163 rfl 1 rfl ?_
    refine a_iald dX12_judge_164 (fun v29 => ?_)
    refine a_aload_n dX12_judge_165 rfl 0 rfl ?_
    refine a_getr kc13 30 dX12_judge_166 (by decide) rfl w_fieldLink_RainCoverModel_91 (fun v30 => ?_)
    refine a_aload_n dX12_judge_169 rfl 0 rfl ?_
    refine a_getr kc13 56 dX12_judge_170 (by decide) rfl w_fieldLink_RainCoverModel_151 (fun v31 => ?_)
    refine a_iload_n dX12_judge_173 rfl 1 rfl ?_
    refine a_iald dX12_judge_174 (fun v32 => ?_)
    refine a_iald dX12_judge_175 (fun v33 => ?_)
    refine a_iload_n dX12_judge_176 rfl 3 rfl ?_
    refine a_imul dX12_judge_177 ?_
    refine a_cV_Sv (r := x0) (ci := 13) (as := [.int v27, .int v29, .int (v33 * x3)]) (st := []) dX12_judge_178 (c_X12_pays l g h25 x0 v27 v29 (v33 * x3)) rfl km_X12_pays (hm_X12_pays) rfl (by decide) rfl (fun _ ee => g_X12_pays ee) w_methodLink_RainCoverModel_427 w_instanceMethod_RainCoverModel_pays__III_V w_selects_RainCoverModel_RainCoverModel_pays__III_V_RainCoverModel_pays__III_V ⟨⟨by decide, by decide⟩, ⟨by decide, by decide⟩⟩ (Nat.le_of_ble_eq_true rfl) (fun q34 => ?_)
    refine a_iconst (v := 1) dX12_judge_181 (by decide) ?_
    exact a_iret dX12_judge_182 rfl rfl (by decide) (by decide)
  · refine a_iconst (v := 0) dX12_judge_140 (by decide) ?_
    exact a_iret dX12_judge_141 rfl rfl (by decide) (by decide)
set_option maxRecDepth 100000 in
set_option maxHeartbeats 4000000 in
theorem t_X12_judge_b121 (h0 : AH) (N : Nat) (h : AH) (x0 : Nat) (x1 : Int32) (x2 : Int32) (x3 : Int32) : AO l g M_X12_judge false h0 121 [(0, .ref x0), (1, .int x1), (2, .int x2), (3, .int x3)] [] h 0 0 rSi (f_X12_judge_b121 N  h x0 x1 x2 x3) := by
  unfold f_X12_judge_b121
  refine a_aload_n dX12_judge_121 rfl 0 rfl ?_
  refine a_getr kc13 59 dX12_judge_122 (by decide) rfl w_fieldLink_RainCoverModel_160 (fun v19 => ?_)
  refine a_iload_n dX12_judge_125 rfl 1 rfl ?_
  refine a_iload_n dX12_judge_126 rfl 2 rfl ?_
  refine a_if_le 134 dX12_judge_127 (by decide) (fun c20 => ?_) (fun c20 => ?_)
  · refine a_iconst (v := 2) dX12_judge_134 (by decide) ?_
    exact t_X12_judge_b135 h0 N h x0 x1 x2 x3 2 x1 v19
  · refine a_iconst (v := 1) dX12_judge_130 (by decide) ?_
    refine a_goto 135 dX12_judge_131 (by decide) ?_
    exact t_X12_judge_b135 h0 N h x0 x1 x2 x3 1 x1 v19
set_option maxRecDepth 100000 in
set_option maxHeartbeats 4000000 in
theorem t_X12_judge_b35_body (h0 : AH) (N : Nat) (K35 : AH → Nat → Int32 → Int32 → Int32 → Int32 → Option (Int32 × AH)) (hK35 : ∀ (z : AH) (z0 : Nat) (z1 : Int32) (z2 : Int32) (z3 : Int32) (z4 : Int32), AO l g M_X12_judge false h0 35 [(0, .ref z0), (1, .int z1), (2, .int z2), (3, .int z3), (4, .int z4)] [] z 0 0 rSi (K35 z z0 z1 z2 z3 z4)) (h : AH) (x0 : Nat) (x1 : Int32) (x2 : Int32) (x3 : Int32) (x4 : Int32) : AO l g M_X12_judge false h0 35 [(0, .ref x0), (1, .int x1), (2, .int x2), (3, .int x3), (4, .int x4)] [] h 0 0 rSi (f_X12_judge_b35_body N K35 h x0 x1 x2 x3 x4) := by
  unfold f_X12_judge_b35_body
  refine a_iload dX12_judge_35 4 rfl ?_
  refine a_aload_n dX12_judge_37 rfl 0 rfl ?_
  refine a_geti kc13 41 dX12_judge_38 (by decide) rfl w_fieldLink_RainCoverModel_364 (fun v7 => ?_)
  refine a_icmp_ge 104 dX12_judge_41 (by decide) (fun c8 => ?_) (fun c8 => ?_)
  · refine a_iload_n dX12_judge_104 rfl 2 rfl ?_
    refine a_if_le 121 dX12_judge_105 (by decide) (fun c9 => ?_) (fun c9 => ?_)
    · refine a_pick (lc2 := [(0, .ref x0), (1, .int x1), (2, .int x2), (3, .int x3)]) [0, 1, 2, 3] rfl ?_
      exact t_X12_judge_b121 h0 N h x0 x1 x2 x3
    · refine a_aload_n dX12_judge_108 rfl 0 rfl ?_
      refine a_geti kc13 49 dX12_judge_109 (by decide) rfl w_fieldLink_RainCoverModel_421 (fun v10 => ?_)
      refine a_sipush (v := 200) dX12_judge_112 (by decide) ?_
      refine a_icmp_ne 121 dX12_judge_115 (by decide) (fun c11 => ?_) (fun c11 => ?_)
      · refine a_bipush (v := (-4)) dX12_judge_118 (by decide) ?_
        exact a_iret dX12_judge_120 rfl rfl (by decide) (by decide)
      · refine a_pick (lc2 := [(0, .ref x0), (1, .int x1), (2, .int x2), (3, .int x3)]) [0, 1, 2, 3] rfl ?_
        exact t_X12_judge_b121 h0 N h x0 x1 x2 x3
  · refine a_aload_n dX12_judge_44 rfl 0 rfl ?_
    refine a_iload_n dX12_judge_45 rfl 1 rfl ?_
    refine a_iload dX12_judge_46 4 rfl ?_
    refine a_cV_Pi (r := x0) (ci := 13) (as := [.int x1, .int x4]) (st := []) dX12_judge_48 (c_X12_isKin l g h N x0 x1 x4) rfl km_X12_isKin (hm_X12_isKin) rfl (by decide) rfl (fun _ ee => g_X12_isKin ee) w_methodLink_RainCoverModel_442 w_instanceMethod_RainCoverModel_isKin__II_Z w_selects_RainCoverModel_RainCoverModel_isKin__II_Z_RainCoverModel_isKin__II_Z ⟨⟨by decide, by decide⟩, ⟨by decide, by decide⟩⟩ (Nat.le_of_ble_eq_true rfl) (fun v12 => ?_)
    refine a_if_eq 98 dX12_judge_51 (by decide) (fun c13 => ?_) (fun c13 => ?_)
    · exact t_X12_judge_b98 h0 N K35 hK35 h x0 x1 x2 x3 x4
    · refine a_aload_n dX12_judge_54 rfl 0 rfl ?_
      refine a_iload_n dX12_judge_55 rfl 1 rfl ?_
      refine a_iload dX12_judge_56 4 rfl ?_
      refine a_cV_Pi (r := x0) (ci := 13) (as := [.int x1, .int x4]) (st := []) dX12_judge_58 (c_X12_hurt l g h N x0 x1 x4) rfl km_X12_hurt (hm_X12_hurt) rfl (by decide) rfl (fun _ ee => g_X12_hurt ee) w_methodLink_RainCoverModel_445 w_instanceMethod_RainCoverModel_hurt__II_I w_selects_RainCoverModel_RainCoverModel_hurt__II_I_RainCoverModel_hurt__II_I ⟨⟨by decide, by decide⟩, ⟨by decide, by decide⟩⟩ (Nat.le_of_ble_eq_true rfl) (fun v14 => ?_)
      refine a_istore (lc2 := [(5, .int v14), (0, .ref x0), (1, .int x1), (2, .int x2), (3, .int x3), (4, .int x4)]) dX12_judge_61 (by decide) rfl ?_
      refine a_iload_n dX12_judge_63 rfl 3 rfl ?_
      refine a_iload dX12_judge_64 0 rfl ?_
      refine a_if_le 73 dX12_judge_66 (by decide) (fun c15 => ?_) (fun c15 => ?_)
      · refine a_iconst (v := (-1)) dX12_judge_73 (by decide) ?_
        refine a_pick (lc2 := [(0, .ref x0), (1, .int x1), (3, .int x3), (4, .int x4), (5, .int v14)]) [1, 2, 4, 5, 0] rfl ?_
        exact t_X12_judge_b74 h0 N K35 hK35 h x0 x1 x3 x4 v14 (-1) x2
      · refine a_iconst (v := 1) dX12_judge_69 (by decide) ?_
        refine a_goto 74 dX12_judge_70 (by decide) ?_
        refine a_pick (lc2 := [(0, .ref x0), (1, .int x1), (3, .int x3), (4, .int x4), (5, .int v14)]) [1, 2, 4, 5, 0] rfl ?_
        exact t_X12_judge_b74 h0 N K35 hK35 h x0 x1 x3 x4 v14 1 x2
set_option maxRecDepth 100000 in
set_option maxHeartbeats 4000000 in
theorem t_X12_judge_b35 (h0 : AH) (N : Nat) : ∀ (n : Nat) (h : AH) (x0 : Nat) (x1 : Int32) (x2 : Int32) (x3 : Int32) (x4 : Int32) , AO l g M_X12_judge false h0 35 [(0, .ref x0), (1, .int x1), (2, .int x2), (3, .int x3), (4, .int x4)] [] h 0 0 rSi (f_X12_judge_b35 N  n h x0 x1 x2 x3 x4) := by
  intro n
  induction n with
  | zero => intro h x0 x1 x2 x3 x4; exact a_eq rfl a_none
  | succ n ih => intro h x0 x1 x2 x3 x4; exact a_eq rfl (t_X12_judge_b35_body h0 N  (f_X12_judge_b35 N  n) ih h x0 x1 x2 x3 x4)
end
set_option maxRecDepth 100000 in
set_option maxHeartbeats 4000000 in
theorem c_X12_judge (l : Launch) (g : GG) (h0 : AH) (N : Nat) (p0 : Nat) (p1 : Int32) : CN l g yX12_judge M_X12_judge false [.ref p0, .int p1] h0 rSi (f_X12_judge h0 N p0 p1) := by
  refine CN.of (by decide) rfl (fun hh => by first | rfl | cases hh) (Nat.le_of_ble_eq_true rfl) ?_
  unfold f_X12_judge
  refine a_gd (fun hkd => ?_)
  refine a_iload_n dX12_judge_0 rfl 1 rfl ?_
  refine a_iconst (v := 0) dX12_judge_1 (by decide) ?_
  refine a_aload_n dX12_judge_2 rfl 0 rfl ?_
  refine a_geti kc13 55 dX12_judge_3 (by decide) rfl w_fieldLink_RainCoverModel_439 (fun v1 => ?_)
  refine a_iconst (v := 1) dX12_judge_6 (by decide) ?_
  refine a_isub dX12_judge_7 ?_
  refine a_cS_Pi (as := [.int p1, .int 0, .int (v1 - 1)]) (st := []) dX12_judge_8 (c_X12_in l g h0 p1 0 (v1 - 1)) rfl km_X12_in (hm_X12_in) w_methodLink_RainCoverModel_204 w_static_RainCoverModel_in__III_Z ⟨⟨by decide, by decide⟩, ⟨by decide, by decide⟩⟩ (Nat.le_of_ble_eq_true rfl) (fun v2 => ?_)
  refine a_if_ne 16 dX12_judge_11 (by decide) (fun c3 => ?_) (fun c3 => ?_)
  · refine a_iconst (v := (-1)) dX12_judge_14 (by decide) ?_
    exact a_iret dX12_judge_15 rfl rfl (by decide) (by decide)
  · refine a_aload_n dX12_judge_16 rfl 0 rfl ?_
    refine a_getr kc13 59 dX12_judge_17 (by decide) rfl w_fieldLink_RainCoverModel_160 (fun v4 => ?_)
    refine a_iload_n dX12_judge_20 rfl 1 rfl ?_
    refine a_iald dX12_judge_21 (fun v5 => ?_)
    refine a_if_eq 28 dX12_judge_22 (by decide) (fun c6 => ?_) (fun c6 => ?_)
    · refine a_iconst (v := 0) dX12_judge_28 (by decide) ?_
      refine a_istore_n (lc2 := [(2, .int 0), (0, .ref p0), (1, .int p1)]) dX12_judge_29 rfl (by decide) rfl ?_
      refine a_iconst (v := 0) dX12_judge_30 (by decide) ?_
      refine a_istore_n (lc2 := [(3, .int 0), (2, .int 0), (0, .ref p0), (1, .int p1)]) dX12_judge_31 rfl (by decide) rfl ?_
      refine a_iconst (v := 0) dX12_judge_32 (by decide) ?_
      refine a_istore (lc2 := [(4, .int 0), (3, .int 0), (2, .int 0), (0, .ref p0), (1, .int p1)]) dX12_judge_33 (by decide) rfl ?_
      refine a_pick (lc2 := [(0, .ref p0), (1, .int p1), (2, .int 0), (3, .int 0), (4, .int 0)]) [3, 4, 2, 1, 0] rfl ?_
      exact t_X12_judge_b35 h0 N N h0 p0 p1 0 0 0
    · refine a_bipush (v := (-3)) dX12_judge_25 (by decide) ?_
      exact a_iret dX12_judge_27 rfl rfl (by decide) (by decide)
theorem dX12_complaint_0 : decode cX12_complaint 0 = .ok (.iload_n 1, 1) := by decide +kernel
theorem dX12_complaint_1 : decode cX12_complaint 1 = .ok (.iconst 0, 1) := by decide +kernel
theorem dX12_complaint_2 : decode cX12_complaint 2 = .ok (.aload_n 0, 1) := by decide +kernel
theorem dX12_complaint_3 : decode cX12_complaint 3 = .ok (.getfield 439, 3) := by decide +kernel
theorem dX12_complaint_6 : decode cX12_complaint 6 = .ok (.iconst 1, 1) := by decide +kernel
theorem dX12_complaint_7 : decode cX12_complaint 7 = .ok (.isub, 1) := by decide +kernel
theorem dX12_complaint_8 : decode cX12_complaint 8 = .ok (.invokestatic 204, 3) := by decide +kernel
theorem dX12_complaint_11 : decode cX12_complaint 11 = .ok (.ifCond .ne 6, 3) := by decide +kernel
theorem dX12_complaint_14 : decode cX12_complaint 14 = .ok (.bipush (-5), 2) := by decide +kernel
theorem dX12_complaint_16 : decode cX12_complaint 16 = .ok (.ireturn, 1) := by decide +kernel
theorem dX12_complaint_17 : decode cX12_complaint 17 = .ok (.iload_n 2, 1) := by decide +kernel
theorem dX12_complaint_18 : decode cX12_complaint 18 = .ok (.tableswitch 113 0 5 #[38, 45, 52, 59, 66, 73], 38) := by decide +kernel
theorem dX12_complaint_56 : decode cX12_complaint 56 = .ok (.aload_n 0, 1) := by decide +kernel
theorem dX12_complaint_57 : decode cX12_complaint 57 = .ok (.getfield 151, 3) := by decide +kernel
theorem dX12_complaint_60 : decode cX12_complaint 60 = .ok (.iload_n 1, 1) := by decide +kernel
theorem dX12_complaint_61 : decode cX12_complaint 61 = .ok (.iaload, 1) := by decide +kernel
theorem dX12_complaint_62 : decode cX12_complaint 62 = .ok (.ireturn, 1) := by decide +kernel
theorem dX12_complaint_63 : decode cX12_complaint 63 = .ok (.aload_n 0, 1) := by decide +kernel
theorem dX12_complaint_64 : decode cX12_complaint 64 = .ok (.getfield 154, 3) := by decide +kernel
theorem dX12_complaint_67 : decode cX12_complaint 67 = .ok (.iload_n 1, 1) := by decide +kernel
theorem dX12_complaint_68 : decode cX12_complaint 68 = .ok (.iaload, 1) := by decide +kernel
theorem dX12_complaint_69 : decode cX12_complaint 69 = .ok (.ireturn, 1) := by decide +kernel
theorem dX12_complaint_70 : decode cX12_complaint 70 = .ok (.aload_n 0, 1) := by decide +kernel
theorem dX12_complaint_71 : decode cX12_complaint 71 = .ok (.getfield 157, 3) := by decide +kernel
theorem dX12_complaint_74 : decode cX12_complaint 74 = .ok (.iload_n 1, 1) := by decide +kernel
theorem dX12_complaint_75 : decode cX12_complaint 75 = .ok (.iaload, 1) := by decide +kernel
theorem dX12_complaint_76 : decode cX12_complaint 76 = .ok (.ireturn, 1) := by decide +kernel
theorem dX12_complaint_77 : decode cX12_complaint 77 = .ok (.aload_n 0, 1) := by decide +kernel
theorem dX12_complaint_78 : decode cX12_complaint 78 = .ok (.getfield 160, 3) := by decide +kernel
theorem dX12_complaint_81 : decode cX12_complaint 81 = .ok (.iload_n 1, 1) := by decide +kernel
theorem dX12_complaint_82 : decode cX12_complaint 82 = .ok (.iaload, 1) := by decide +kernel
theorem dX12_complaint_83 : decode cX12_complaint 83 = .ok (.ireturn, 1) := by decide +kernel
theorem dX12_complaint_84 : decode cX12_complaint 84 = .ok (.aload_n 0, 1) := by decide +kernel
theorem dX12_complaint_85 : decode cX12_complaint 85 = .ok (.getfield 163, 3) := by decide +kernel
theorem dX12_complaint_88 : decode cX12_complaint 88 = .ok (.iload_n 1, 1) := by decide +kernel
theorem dX12_complaint_89 : decode cX12_complaint 89 = .ok (.iaload, 1) := by decide +kernel
theorem dX12_complaint_90 : decode cX12_complaint 90 = .ok (.ireturn, 1) := by decide +kernel
theorem dX12_complaint_91 : decode cX12_complaint 91 = .ok (.iconst 0, 1) := by decide +kernel
theorem dX12_complaint_92 : decode cX12_complaint 92 = .ok (.istore_n 3, 1) := by decide +kernel
theorem dX12_complaint_93 : decode cX12_complaint 93 = .ok (.iconst 0, 1) := by decide +kernel
theorem dX12_complaint_94 : decode cX12_complaint 94 = .ok (.istore 4, 2) := by decide +kernel
theorem dX12_complaint_96 : decode cX12_complaint 96 = .ok (.iload 4, 2) := by decide +kernel
theorem dX12_complaint_98 : decode cX12_complaint 98 = .ok (.aload_n 0, 1) := by decide +kernel
theorem dX12_complaint_99 : decode cX12_complaint 99 = .ok (.getfield 364, 3) := by decide +kernel
theorem dX12_complaint_102 : decode cX12_complaint 102 = .ok (.if_icmp .ge 27, 3) := by decide +kernel
theorem dX12_complaint_105 : decode cX12_complaint 105 = .ok (.iload_n 3, 1) := by decide +kernel
theorem dX12_complaint_106 : decode cX12_complaint 106 = .ok (.aload_n 0, 1) := by decide +kernel
theorem dX12_complaint_107 : decode cX12_complaint 107 = .ok (.iload_n 1, 1) := by decide +kernel
theorem dX12_complaint_108 : decode cX12_complaint 108 = .ok (.iload 4, 2) := by decide +kernel
theorem dX12_complaint_110 : decode cX12_complaint 110 = .ok (.invokevirtual 442, 3) := by decide +kernel
theorem dX12_complaint_113 : decode cX12_complaint 113 = .ok (.ifCond .eq 7, 3) := by decide +kernel
theorem dX12_complaint_116 : decode cX12_complaint 116 = .ok (.iconst 1, 1) := by decide +kernel
theorem dX12_complaint_117 : decode cX12_complaint 117 = .ok (.goto 4, 3) := by decide +kernel
theorem dX12_complaint_120 : decode cX12_complaint 120 = .ok (.iconst 0, 1) := by decide +kernel
theorem dX12_complaint_121 : decode cX12_complaint 121 = .ok (.iadd, 1) := by decide +kernel
theorem dX12_complaint_122 : decode cX12_complaint 122 = .ok (.istore_n 3, 1) := by decide +kernel
theorem dX12_complaint_123 : decode cX12_complaint 123 = .ok (.iinc 4 1, 3) := by decide +kernel
theorem dX12_complaint_126 : decode cX12_complaint 126 = .ok (.goto (-30), 3) := by decide +kernel
theorem dX12_complaint_129 : decode cX12_complaint 129 = .ok (.iload_n 3, 1) := by decide +kernel
theorem dX12_complaint_130 : decode cX12_complaint 130 = .ok (.ireturn, 1) := by decide +kernel
theorem dX12_complaint_131 : decode cX12_complaint 131 = .ok (.bipush (-5), 2) := by decide +kernel
theorem dX12_complaint_133 : decode cX12_complaint 133 = .ok (.ireturn, 1) := by decide +kernel
abbrev M_X12_complaint : MI := (RX12, cX12_complaint, 5, (some .int), ({ frames := 4, cells := 0, slots := 0, locals := 93 } : Room), 0, 0, false)
def f_X12_complaint_b121 (h : AH) (N : Nat) (K96 : Nat → Int32 → Int32 → Int32 → Option Int32) (x0 : Nat) (x1 : Int32) (x4 : Int32) (s3 : Int32) (s4 : Int32) : Option Int32 := K96 x0 x1 (s4 + s3) (x4 + 1)
def f_X12_complaint_b96_body (h : AH) (N : Nat) (K96 : Nat → Int32 → Int32 → Int32 → Option Int32) (x0 : Nat) (x1 : Int32) (x3 : Int32) (x4 : Int32) : Option Int32 := (xgi h x0 13 41).bind fun v20 => (if v20 ≤ x4 then some x3 else (f_X12_isKin h N x0 x1 x4).bind fun v22 => (if v22 = 0 then f_X12_complaint_b121 h N K96 x0 x1 x4 0 x3 else f_X12_complaint_b121 h N K96 x0 x1 x4 1 x3))
def f_X12_complaint_b96 (h : AH) (N : Nat) : Nat → Nat → Int32 → Int32 → Int32 → Option Int32
  | 0, _, _, _, _ => none
  | n + 1, x0, x1, x3, x4 => f_X12_complaint_b96_body h N  (f_X12_complaint_b96 h N  n) x0 x1 x3 x4
def f_X12_complaint (h : AH) (N : Nat) (p0 : Nat) (p1 : Int32) (p2 : Int32) : Option Int32 := if kd h p0 = 13 + 1 then (xgi h p0 13 55).bind fun v1 => (f_X12_in h p1 0 (v1 - 1)).bind fun v2 => (if v2 = 0 then some (-5) else (if p2 = 0 then (xgr h p0 13 56).bind fun v5 => (xia h v5 p1).bind fun v6 => some v6 else (if p2 = 1 then (xgr h p0 13 57).bind fun v8 => (xia h v8 p1).bind fun v9 => some v9 else (if p2 = 2 then (xgr h p0 13 58).bind fun v11 => (xia h v11 p1).bind fun v12 => some v12 else (if p2 = 3 then (xgr h p0 13 59).bind fun v14 => (xia h v14 p1).bind fun v15 => some v15 else (if p2 = 4 then (xgr h p0 13 60).bind fun v17 => (xia h v17 p1).bind fun v18 => some v18 else (if p2 = 5 then f_X12_complaint_b96 h N N p0 p1 0 0 else some (-5)))))))) else none
theorem g_X12_complaint {h : AH} {N : Nat} {p0 : Nat} {p1 : Int32} {p2 : Int32} {x : Int32} (e : f_X12_complaint h N p0 p1 p2 = some x) : kd h p0 = 13 + 1 := by
  unfold f_X12_complaint at e
  by_cases hk : kd h p0 = 13 + 1
  · exact hk
  · rw [if_neg hk] at e
    cases e
theorem km_X12_complaint : KM yX12_complaint M_X12_complaint 2 := ⟨in_tb 1830 (by decide +kernel) rfl, in_tb 9 (by decide +kernel) rfl, by decide +kernel, rfl, rfl⟩
theorem hm_X12_complaint : M_X12_complaint.2.2.2.2.2.1 = 0 ∧ M_X12_complaint.2.2.2.2.2.2.1 = 0 := ⟨rfl, rfl⟩
section
variable {l : Launch} {g : GG}
set_option maxRecDepth 100000 in
set_option maxHeartbeats 4000000 in
theorem t_X12_complaint_b121 (h : AH) (N : Nat) (K96 : Nat → Int32 → Int32 → Int32 → Option Int32) (hK96 : ∀ (z0 : Nat) (z1 : Int32) (z2 : Int32) (z3 : Int32), AO l g M_X12_complaint false h 96 [(0, .ref z0), (1, .int z1), (3, .int z2), (4, .int z3)] [] h 0 0 (rPi h) (K96 z0 z1 z2 z3)) (x0 : Nat) (x1 : Int32) (x4 : Int32) (s3 : Int32) (s4 : Int32) : AO l g M_X12_complaint false h 121 [(0, .ref x0), (1, .int x1), (4, .int x4)] [.int s3, .int s4] h 0 0 (rPi h) (f_X12_complaint_b121 h N K96 x0 x1 x4 s3 s4) := by
  unfold f_X12_complaint_b121
  refine a_iadd dX12_complaint_121 ?_
  refine a_istore_n (lc2 := [(3, .int (s4 + s3)), (0, .ref x0), (1, .int x1), (4, .int x4)]) dX12_complaint_122 rfl (by decide) rfl ?_
  refine a_iinc (q := 3) (v := (x4 + 1)) (lc2 := [(4, .int (x4 + 1)), (3, .int (s4 + s3)), (0, .ref x0), (1, .int x1)]) dX12_complaint_123 rfl rfl (by decide) rfl ?_
  refine a_goto 96 dX12_complaint_126 (by decide) ?_
  refine a_pick (lc2 := [(0, .ref x0), (1, .int x1), (3, .int (s4 + s3)), (4, .int (x4 + 1))]) [2, 3, 1, 0] rfl ?_
  exact hK96 x0 x1 (s4 + s3) (x4 + 1)
set_option maxRecDepth 100000 in
set_option maxHeartbeats 4000000 in
theorem t_X12_complaint_b96_body (h : AH) (N : Nat) (K96 : Nat → Int32 → Int32 → Int32 → Option Int32) (hK96 : ∀ (z0 : Nat) (z1 : Int32) (z2 : Int32) (z3 : Int32), AO l g M_X12_complaint false h 96 [(0, .ref z0), (1, .int z1), (3, .int z2), (4, .int z3)] [] h 0 0 (rPi h) (K96 z0 z1 z2 z3)) (x0 : Nat) (x1 : Int32) (x3 : Int32) (x4 : Int32) : AO l g M_X12_complaint false h 96 [(0, .ref x0), (1, .int x1), (3, .int x3), (4, .int x4)] [] h 0 0 (rPi h) (f_X12_complaint_b96_body h N K96 x0 x1 x3 x4) := by
  unfold f_X12_complaint_b96_body
  refine a_iload dX12_complaint_96 3 rfl ?_
  refine a_aload_n dX12_complaint_98 rfl 0 rfl ?_
  refine a_geti kc13 41 dX12_complaint_99 (by decide) rfl w_fieldLink_RainCoverModel_364 (fun v20 => ?_)
  refine a_icmp_ge 129 dX12_complaint_102 (by decide) (fun c21 => ?_) (fun c21 => ?_)
  · refine a_iload_n dX12_complaint_129 rfl 2 rfl ?_
    exact a_iret dX12_complaint_130 rfl rfl (by decide) (by decide)
  · refine a_iload_n dX12_complaint_105 rfl 2 rfl ?_
    refine a_aload_n dX12_complaint_106 rfl 0 rfl ?_
    refine a_iload_n dX12_complaint_107 rfl 1 rfl ?_
    refine a_iload dX12_complaint_108 3 rfl ?_
    refine a_cV_Pi (r := x0) (ci := 13) (as := [.int x1, .int x4]) (st := [.int x3]) dX12_complaint_110 (c_X12_isKin l g h N x0 x1 x4) rfl km_X12_isKin (hm_X12_isKin) rfl (by decide) rfl (fun _ ee => g_X12_isKin ee) w_methodLink_RainCoverModel_442 w_instanceMethod_RainCoverModel_isKin__II_Z w_selects_RainCoverModel_RainCoverModel_isKin__II_Z_RainCoverModel_isKin__II_Z ⟨⟨by decide, by decide⟩, ⟨by decide, by decide⟩⟩ (Nat.le_of_ble_eq_true rfl) (fun v22 => ?_)
    refine a_if_eq 120 dX12_complaint_113 (by decide) (fun c23 => ?_) (fun c23 => ?_)
    · refine a_iconst (v := 0) dX12_complaint_120 (by decide) ?_
      refine a_pick (lc2 := [(0, .ref x0), (1, .int x1), (4, .int x4)]) [0, 1, 3] rfl ?_
      exact t_X12_complaint_b121 h N K96 hK96 x0 x1 x4 0 x3
    · refine a_iconst (v := 1) dX12_complaint_116 (by decide) ?_
      refine a_goto 121 dX12_complaint_117 (by decide) ?_
      refine a_pick (lc2 := [(0, .ref x0), (1, .int x1), (4, .int x4)]) [0, 1, 3] rfl ?_
      exact t_X12_complaint_b121 h N K96 hK96 x0 x1 x4 1 x3
set_option maxRecDepth 100000 in
set_option maxHeartbeats 4000000 in
theorem t_X12_complaint_b96 (h : AH) (N : Nat) : ∀ (n : Nat) (x0 : Nat) (x1 : Int32) (x3 : Int32) (x4 : Int32) , AO l g M_X12_complaint false h 96 [(0, .ref x0), (1, .int x1), (3, .int x3), (4, .int x4)] [] h 0 0 (rPi h) (f_X12_complaint_b96 h N  n x0 x1 x3 x4) := by
  intro n
  induction n with
  | zero => intro x0 x1 x3 x4; exact a_eq rfl a_none
  | succ n ih => intro x0 x1 x3 x4; exact a_eq rfl (t_X12_complaint_b96_body h N  (f_X12_complaint_b96 h N  n) ih x0 x1 x3 x4)
end
set_option maxRecDepth 100000 in
set_option maxHeartbeats 4000000 in
theorem c_X12_complaint (l : Launch) (g : GG) (h : AH) (N : Nat) (p0 : Nat) (p1 : Int32) (p2 : Int32) : CN l g yX12_complaint M_X12_complaint false [.ref p0, .int p1, .int p2] h ((rPi h)) (f_X12_complaint h N p0 p1 p2) := by
  refine CN.of (by decide) rfl (fun hh => by first | rfl | cases hh) (Nat.le_of_ble_eq_true rfl) ?_
  unfold f_X12_complaint
  refine a_gd (fun hkd => ?_)
  refine a_iload_n dX12_complaint_0 rfl 1 rfl ?_
  refine a_iconst (v := 0) dX12_complaint_1 (by decide) ?_
  refine a_aload_n dX12_complaint_2 rfl 0 rfl ?_
  refine a_geti kc13 55 dX12_complaint_3 (by decide) rfl w_fieldLink_RainCoverModel_439 (fun v1 => ?_)
  refine a_iconst (v := 1) dX12_complaint_6 (by decide) ?_
  refine a_isub dX12_complaint_7 ?_
  refine a_cS_Pi (as := [.int p1, .int 0, .int (v1 - 1)]) (st := []) dX12_complaint_8 (c_X12_in l g h p1 0 (v1 - 1)) rfl km_X12_in (hm_X12_in) w_methodLink_RainCoverModel_204 w_static_RainCoverModel_in__III_Z ⟨⟨by decide, by decide⟩, ⟨by decide, by decide⟩⟩ (Nat.le_of_ble_eq_true rfl) (fun v2 => ?_)
  refine a_if_ne 17 dX12_complaint_11 (by decide) (fun c3 => ?_) (fun c3 => ?_)
  · refine a_bipush (v := (-5)) dX12_complaint_14 (by decide) ?_
    exact a_iret dX12_complaint_16 rfl rfl (by decide) (by decide)
  · refine a_iload_n dX12_complaint_17 rfl 2 rfl ?_
    refine a_swt (v := 0) 56 dX12_complaint_18 (by decide) (by decide) (fun c4 => ?_) (fun c4 => ?_)
    · refine a_aload_n dX12_complaint_56 rfl 0 rfl ?_
      refine a_getr kc13 56 dX12_complaint_57 (by decide) rfl w_fieldLink_RainCoverModel_151 (fun v5 => ?_)
      refine a_iload_n dX12_complaint_60 rfl 1 rfl ?_
      refine a_iald dX12_complaint_61 (fun v6 => ?_)
      exact a_iret dX12_complaint_62 rfl rfl (by decide) (by decide)
    refine a_swt (v := 1) 63 dX12_complaint_18 (by decide) (by decide) (fun c7 => ?_) (fun c7 => ?_)
    · refine a_aload_n dX12_complaint_63 rfl 0 rfl ?_
      refine a_getr kc13 57 dX12_complaint_64 (by decide) rfl w_fieldLink_RainCoverModel_154 (fun v8 => ?_)
      refine a_iload_n dX12_complaint_67 rfl 1 rfl ?_
      refine a_iald dX12_complaint_68 (fun v9 => ?_)
      exact a_iret dX12_complaint_69 rfl rfl (by decide) (by decide)
    refine a_swt (v := 2) 70 dX12_complaint_18 (by decide) (by decide) (fun c10 => ?_) (fun c10 => ?_)
    · refine a_aload_n dX12_complaint_70 rfl 0 rfl ?_
      refine a_getr kc13 58 dX12_complaint_71 (by decide) rfl w_fieldLink_RainCoverModel_157 (fun v11 => ?_)
      refine a_iload_n dX12_complaint_74 rfl 1 rfl ?_
      refine a_iald dX12_complaint_75 (fun v12 => ?_)
      exact a_iret dX12_complaint_76 rfl rfl (by decide) (by decide)
    refine a_swt (v := 3) 77 dX12_complaint_18 (by decide) (by decide) (fun c13 => ?_) (fun c13 => ?_)
    · refine a_aload_n dX12_complaint_77 rfl 0 rfl ?_
      refine a_getr kc13 59 dX12_complaint_78 (by decide) rfl w_fieldLink_RainCoverModel_160 (fun v14 => ?_)
      refine a_iload_n dX12_complaint_81 rfl 1 rfl ?_
      refine a_iald dX12_complaint_82 (fun v15 => ?_)
      exact a_iret dX12_complaint_83 rfl rfl (by decide) (by decide)
    refine a_swt (v := 4) 84 dX12_complaint_18 (by decide) (by decide) (fun c16 => ?_) (fun c16 => ?_)
    · refine a_aload_n dX12_complaint_84 rfl 0 rfl ?_
      refine a_getr kc13 60 dX12_complaint_85 (by decide) rfl w_fieldLink_RainCoverModel_163 (fun v17 => ?_)
      refine a_iload_n dX12_complaint_88 rfl 1 rfl ?_
      refine a_iald dX12_complaint_89 (fun v18 => ?_)
      exact a_iret dX12_complaint_90 rfl rfl (by decide) (by decide)
    refine a_swt (v := 5) 91 dX12_complaint_18 (by decide) (by decide) (fun c19 => ?_) (fun c19 => ?_)
    · refine a_iconst (v := 0) dX12_complaint_91 (by decide) ?_
      refine a_istore_n (lc2 := [(3, .int 0), (0, .ref p0), (1, .int p1), (2, .int p2)]) dX12_complaint_92 rfl (by decide) rfl ?_
      refine a_iconst (v := 0) dX12_complaint_93 (by decide) ?_
      refine a_istore (lc2 := [(4, .int 0), (3, .int 0), (0, .ref p0), (1, .int p1), (2, .int p2)]) dX12_complaint_94 (by decide) rfl ?_
      refine a_pick (lc2 := [(0, .ref p0), (1, .int p1), (3, .int 0), (4, .int 0)]) [2, 3, 1, 0] rfl ?_
      exact t_X12_complaint_b96 h N N p0 p1 0 0
    refine a_swtd (vs := [0, 1, 2, 3, 4, 5]) 131 dX12_complaint_18 (by decide) (by decide) (List.forall_mem_cons.mpr ⟨c4, List.forall_mem_cons.mpr ⟨c7, List.forall_mem_cons.mpr ⟨c10, List.forall_mem_cons.mpr ⟨c13, List.forall_mem_cons.mpr ⟨c16, List.forall_mem_cons.mpr ⟨c19, fun _ hh => absurd hh List.not_mem_nil⟩⟩⟩⟩⟩⟩) ?_
    refine a_bipush (v := (-5)) dX12_complaint_131 (by decide) ?_
    exact a_iret dX12_complaint_133 rfl rfl (by decide) (by decide)
theorem dX12_debt_0 : decode cX12_debt 0 = .ok (.aload_n 0, 1) := by decide +kernel
theorem dX12_debt_1 : decode cX12_debt 1 = .ok (.iload_n 1, 1) := by decide +kernel
theorem dX12_debt_2 : decode cX12_debt 2 = .ok (.invokevirtual 346, 3) := by decide +kernel
theorem dX12_debt_5 : decode cX12_debt 5 = .ok (.ifCond .eq 12, 3) := by decide +kernel
theorem dX12_debt_8 : decode cX12_debt 8 = .ok (.aload_n 0, 1) := by decide +kernel
theorem dX12_debt_9 : decode cX12_debt 9 = .ok (.getfield 94, 3) := by decide +kernel
theorem dX12_debt_12 : decode cX12_debt 12 = .ok (.iload_n 1, 1) := by decide +kernel
theorem dX12_debt_13 : decode cX12_debt 13 = .ok (.iaload, 1) := by decide +kernel
theorem dX12_debt_14 : decode cX12_debt 14 = .ok (.goto 4, 3) := by decide +kernel
theorem dX12_debt_17 : decode cX12_debt 17 = .ok (.iconst (-1), 1) := by decide +kernel
theorem dX12_debt_18 : decode cX12_debt 18 = .ok (.ireturn, 1) := by decide +kernel
abbrev M_X12_debt : MI := (RX12, cX12_debt, 2, (some .int), ({ frames := 2, cells := 0, slots := 0, locals := 43 } : Room), 0, 0, false)
def f_X12_debt (h : AH) (p0 : Nat) (p1 : Int32) : Option Int32 := if kd h p0 = 13 + 1 then (f_X12_isFarm h p0 p1).bind fun v1 => (if v1 = 0 then some (-1) else (xgr h p0 13 31).bind fun v3 => (xia h v3 p1).bind fun v4 => some v4) else none
theorem g_X12_debt {h : AH} {p0 : Nat} {p1 : Int32} {x : Int32} (e : f_X12_debt h p0 p1 = some x) : kd h p0 = 13 + 1 := by
  unfold f_X12_debt at e
  by_cases hk : kd h p0 = 13 + 1
  · exact hk
  · rw [if_neg hk] at e
    cases e
theorem km_X12_debt : KM yX12_debt M_X12_debt 1 := ⟨in_tb 1834 (by decide +kernel) rfl, in_tb 9 (by decide +kernel) rfl, by decide +kernel, rfl, rfl⟩
theorem hm_X12_debt : M_X12_debt.2.2.2.2.2.1 = 0 ∧ M_X12_debt.2.2.2.2.2.2.1 = 0 := ⟨rfl, rfl⟩
section
variable {l : Launch} {g : GG}
end
set_option maxRecDepth 100000 in
set_option maxHeartbeats 4000000 in
theorem c_X12_debt (l : Launch) (g : GG) (h : AH) (p0 : Nat) (p1 : Int32) : CN l g yX12_debt M_X12_debt false [.ref p0, .int p1] h ((rPi h)) (f_X12_debt h p0 p1) := by
  refine CN.of (by decide) rfl (fun hh => by first | rfl | cases hh) (Nat.le_of_ble_eq_true rfl) ?_
  unfold f_X12_debt
  refine a_gd (fun hkd => ?_)
  refine a_aload_n dX12_debt_0 rfl 0 rfl ?_
  refine a_iload_n dX12_debt_1 rfl 1 rfl ?_
  refine a_cV_Pi (r := p0) (ci := 13) (as := [.int p1]) (st := []) dX12_debt_2 (c_X12_isFarm l g h p0 p1) rfl km_X12_isFarm (hm_X12_isFarm) rfl (by decide) rfl (fun _ ee => g_X12_isFarm ee) w_methodLink_RainCoverModel_346 w_instanceMethod_RainCoverModel_isFarm__I_Z w_selects_RainCoverModel_RainCoverModel_isFarm__I_Z_RainCoverModel_isFarm__I_Z ⟨⟨by decide, by decide⟩, ⟨by decide, by decide⟩⟩ (Nat.le_of_ble_eq_true rfl) (fun v1 => ?_)
  refine a_if_eq 17 dX12_debt_5 (by decide) (fun c2 => ?_) (fun c2 => ?_)
  · refine a_iconst (v := (-1)) dX12_debt_17 (by decide) ?_
    exact a_iret dX12_debt_18 rfl rfl (by decide) (by decide)
  · refine a_aload_n dX12_debt_8 rfl 0 rfl ?_
    refine a_getr kc13 31 dX12_debt_9 (by decide) rfl w_fieldLink_RainCoverModel_94 (fun v3 => ?_)
    refine a_iload_n dX12_debt_12 rfl 1 rfl ?_
    refine a_iald dX12_debt_13 (fun v4 => ?_)
    refine a_goto 18 dX12_debt_14 (by decide) ?_
    exact a_iret dX12_debt_18 rfl rfl (by decide) (by decide)
theorem dX12_group_0 : decode cX12_group 0 = .ok (.aload_n 0, 1) := by decide +kernel
theorem dX12_group_1 : decode cX12_group 1 = .ok (.iload_n 1, 1) := by decide +kernel
theorem dX12_group_2 : decode cX12_group 2 = .ok (.invokevirtual 346, 3) := by decide +kernel
theorem dX12_group_5 : decode cX12_group 5 = .ok (.ifCond .ne 5, 3) := by decide +kernel
theorem dX12_group_8 : decode cX12_group 8 = .ok (.iconst (-1), 1) := by decide +kernel
theorem dX12_group_9 : decode cX12_group 9 = .ok (.ireturn, 1) := by decide +kernel
theorem dX12_group_10 : decode cX12_group 10 = .ok (.iload_n 2, 1) := by decide +kernel
theorem dX12_group_11 : decode cX12_group 11 = .ok (.iconst (-1), 1) := by decide +kernel
theorem dX12_group_12 : decode cX12_group 12 = .ok (.iconst 3, 1) := by decide +kernel
theorem dX12_group_13 : decode cX12_group 13 = .ok (.invokestatic 204, 3) := by decide +kernel
theorem dX12_group_16 : decode cX12_group 16 = .ok (.ifCond .ne 6, 3) := by decide +kernel
theorem dX12_group_19 : decode cX12_group 19 = .ok (.bipush (-5), 2) := by decide +kernel
theorem dX12_group_21 : decode cX12_group 21 = .ok (.ireturn, 1) := by decide +kernel
theorem dX12_group_22 : decode cX12_group 22 = .ok (.aload_n 0, 1) := by decide +kernel
theorem dX12_group_23 : decode cX12_group 23 = .ok (.getfield 97, 3) := by decide +kernel
theorem dX12_group_26 : decode cX12_group 26 = .ok (.iload_n 1, 1) := by decide +kernel
theorem dX12_group_27 : decode cX12_group 27 = .ok (.iaload, 1) := by decide +kernel
theorem dX12_group_28 : decode cX12_group 28 = .ok (.istore_n 3, 1) := by decide +kernel
theorem dX12_group_29 : decode cX12_group 29 = .ok (.aload_n 0, 1) := by decide +kernel
theorem dX12_group_30 : decode cX12_group 30 = .ok (.getfield 97, 3) := by decide +kernel
theorem dX12_group_33 : decode cX12_group 33 = .ok (.iload_n 1, 1) := by decide +kernel
theorem dX12_group_34 : decode cX12_group 34 = .ok (.iload_n 2, 1) := by decide +kernel
theorem dX12_group_35 : decode cX12_group 35 = .ok (.iastore, 1) := by decide +kernel
theorem dX12_group_36 : decode cX12_group 36 = .ok (.iload_n 3, 1) := by decide +kernel
theorem dX12_group_37 : decode cX12_group 37 = .ok (.ireturn, 1) := by decide +kernel
abbrev M_X12_group : MI := (RX12, cX12_group, 4, (some .int), ({ frames := 2, cells := 0, slots := 0, locals := 43 } : Room), 0, 0, false)
def f_X12_group (h0 : AH) (p0 : Nat) (p1 : Int32) (p2 : Int32) : Option (Int32 × AH) := if kd h0 p0 = 13 + 1 then (f_X12_isFarm h0 p0 p1).bind fun v1 => (if v1 = 0 then some ((-1), h0) else (f_X12_in h0 p2 (-1) 3).bind fun v3 => (if v3 = 0 then some ((-5), h0) else (xgr h0 p0 13 32).bind fun v5 => (xia h0 v5 p1).bind fun v6 => (xgr h0 p0 13 32).bind fun v7 => (xis h0 v7 p1 p2).bind fun h8 => some (v6, h8))) else none
theorem g_X12_group {h0 : AH} {p0 : Nat} {p1 : Int32} {p2 : Int32} {x : (Int32 × AH)} (e : f_X12_group h0 p0 p1 p2 = some x) : kd h0 p0 = 13 + 1 := by
  unfold f_X12_group at e
  by_cases hk : kd h0 p0 = 13 + 1
  · exact hk
  · rw [if_neg hk] at e
    cases e
theorem km_X12_group : KM yX12_group M_X12_group 2 := ⟨in_tb 1838 (by decide +kernel) rfl, in_tb 9 (by decide +kernel) rfl, by decide +kernel, rfl, rfl⟩
theorem hm_X12_group : M_X12_group.2.2.2.2.2.1 = 0 ∧ M_X12_group.2.2.2.2.2.2.1 = 0 := ⟨rfl, rfl⟩
section
variable {l : Launch} {g : GG}
end
set_option maxRecDepth 100000 in
set_option maxHeartbeats 4000000 in
theorem c_X12_group (l : Launch) (g : GG) (h0 : AH) (p0 : Nat) (p1 : Int32) (p2 : Int32) : CN l g yX12_group M_X12_group false [.ref p0, .int p1, .int p2] h0 rSi (f_X12_group h0 p0 p1 p2) := by
  refine CN.of (by decide) rfl (fun hh => by first | rfl | cases hh) (Nat.le_of_ble_eq_true rfl) ?_
  unfold f_X12_group
  refine a_gd (fun hkd => ?_)
  refine a_aload_n dX12_group_0 rfl 0 rfl ?_
  refine a_iload_n dX12_group_1 rfl 1 rfl ?_
  refine a_cV_Pi (r := p0) (ci := 13) (as := [.int p1]) (st := []) dX12_group_2 (c_X12_isFarm l g h0 p0 p1) rfl km_X12_isFarm (hm_X12_isFarm) rfl (by decide) rfl (fun _ ee => g_X12_isFarm ee) w_methodLink_RainCoverModel_346 w_instanceMethod_RainCoverModel_isFarm__I_Z w_selects_RainCoverModel_RainCoverModel_isFarm__I_Z_RainCoverModel_isFarm__I_Z ⟨⟨by decide, by decide⟩, ⟨by decide, by decide⟩⟩ (Nat.le_of_ble_eq_true rfl) (fun v1 => ?_)
  refine a_if_ne 10 dX12_group_5 (by decide) (fun c2 => ?_) (fun c2 => ?_)
  · refine a_iconst (v := (-1)) dX12_group_8 (by decide) ?_
    exact a_iret dX12_group_9 rfl rfl (by decide) (by decide)
  · refine a_iload_n dX12_group_10 rfl 2 rfl ?_
    refine a_iconst (v := (-1)) dX12_group_11 (by decide) ?_
    refine a_iconst (v := 3) dX12_group_12 (by decide) ?_
    refine a_cS_Pi (as := [.int p2, .int (-1), .int 3]) (st := []) dX12_group_13 (c_X12_in l g h0 p2 (-1) 3) rfl km_X12_in (hm_X12_in) w_methodLink_RainCoverModel_204 w_static_RainCoverModel_in__III_Z ⟨⟨by decide, by decide⟩, ⟨by decide, by decide⟩⟩ (Nat.le_of_ble_eq_true rfl) (fun v3 => ?_)
    refine a_if_ne 22 dX12_group_16 (by decide) (fun c4 => ?_) (fun c4 => ?_)
    · refine a_bipush (v := (-5)) dX12_group_19 (by decide) ?_
      exact a_iret dX12_group_21 rfl rfl (by decide) (by decide)
    · refine a_aload_n dX12_group_22 rfl 0 rfl ?_
      refine a_getr kc13 32 dX12_group_23 (by decide) rfl w_fieldLink_RainCoverModel_97 (fun v5 => ?_)
      refine a_iload_n dX12_group_26 rfl 1 rfl ?_
      refine a_iald dX12_group_27 (fun v6 => ?_)
      refine a_istore_n (lc2 := [(3, .int v6), (0, .ref p0), (1, .int p1), (2, .int p2)]) dX12_group_28 rfl (by decide) rfl ?_
      refine a_aload_n dX12_group_29 rfl 1 rfl ?_
      refine a_getr kc13 32 dX12_group_30 (by decide) rfl w_fieldLink_RainCoverModel_97 (fun v7 => ?_)
      refine a_iload_n dX12_group_33 rfl 2 rfl ?_
      refine a_iload_n dX12_group_34 rfl 3 rfl ?_
      refine a_iast dX12_group_35 (fun h8 => ?_)
      refine a_iload_n dX12_group_36 rfl 0 rfl ?_
      exact a_iret dX12_group_37 rfl rfl (by decide) (by decide)
theorem dX12_vote_0 : decode cX12_vote 0 = .ok (.aload_n 0, 1) := by decide +kernel
theorem dX12_vote_1 : decode cX12_vote 1 = .ok (.iload_n 1, 1) := by decide +kernel
theorem dX12_vote_2 : decode cX12_vote 2 = .ok (.invokevirtual 346, 3) := by decide +kernel
theorem dX12_vote_5 : decode cX12_vote 5 = .ok (.ifCond .ne 5, 3) := by decide +kernel
theorem dX12_vote_8 : decode cX12_vote 8 = .ok (.iconst (-1), 1) := by decide +kernel
theorem dX12_vote_9 : decode cX12_vote 9 = .ok (.ireturn, 1) := by decide +kernel
theorem dX12_vote_10 : decode cX12_vote 10 = .ok (.iload_n 2, 1) := by decide +kernel
theorem dX12_vote_11 : decode cX12_vote 11 = .ok (.iconst 0, 1) := by decide +kernel
theorem dX12_vote_12 : decode cX12_vote 12 = .ok (.iconst 2, 1) := by decide +kernel
theorem dX12_vote_13 : decode cX12_vote 13 = .ok (.invokestatic 204, 3) := by decide +kernel
theorem dX12_vote_16 : decode cX12_vote 16 = .ok (.ifCond .ne 6, 3) := by decide +kernel
theorem dX12_vote_19 : decode cX12_vote 19 = .ok (.bipush (-2), 2) := by decide +kernel
theorem dX12_vote_21 : decode cX12_vote 21 = .ok (.ireturn, 1) := by decide +kernel
theorem dX12_vote_22 : decode cX12_vote 22 = .ok (.aload_n 0, 1) := by decide +kernel
theorem dX12_vote_23 : decode cX12_vote 23 = .ok (.getfield 100, 3) := by decide +kernel
theorem dX12_vote_26 : decode cX12_vote 26 = .ok (.iload_n 1, 1) := by decide +kernel
theorem dX12_vote_27 : decode cX12_vote 27 = .ok (.iaload, 1) := by decide +kernel
theorem dX12_vote_28 : decode cX12_vote 28 = .ok (.istore_n 3, 1) := by decide +kernel
theorem dX12_vote_29 : decode cX12_vote 29 = .ok (.aload_n 0, 1) := by decide +kernel
theorem dX12_vote_30 : decode cX12_vote 30 = .ok (.getfield 100, 3) := by decide +kernel
theorem dX12_vote_33 : decode cX12_vote 33 = .ok (.iload_n 1, 1) := by decide +kernel
theorem dX12_vote_34 : decode cX12_vote 34 = .ok (.iload_n 2, 1) := by decide +kernel
theorem dX12_vote_35 : decode cX12_vote 35 = .ok (.iastore, 1) := by decide +kernel
theorem dX12_vote_36 : decode cX12_vote 36 = .ok (.iload_n 3, 1) := by decide +kernel
theorem dX12_vote_37 : decode cX12_vote 37 = .ok (.ireturn, 1) := by decide +kernel
abbrev M_X12_vote : MI := (RX12, cX12_vote, 4, (some .int), ({ frames := 2, cells := 0, slots := 0, locals := 43 } : Room), 0, 0, false)
def f_X12_vote (h0 : AH) (p0 : Nat) (p1 : Int32) (p2 : Int32) : Option (Int32 × AH) := if kd h0 p0 = 13 + 1 then (f_X12_isFarm h0 p0 p1).bind fun v1 => (if v1 = 0 then some ((-1), h0) else (f_X12_in h0 p2 0 2).bind fun v3 => (if v3 = 0 then some ((-2), h0) else (xgr h0 p0 13 33).bind fun v5 => (xia h0 v5 p1).bind fun v6 => (xgr h0 p0 13 33).bind fun v7 => (xis h0 v7 p1 p2).bind fun h8 => some (v6, h8))) else none
theorem g_X12_vote {h0 : AH} {p0 : Nat} {p1 : Int32} {p2 : Int32} {x : (Int32 × AH)} (e : f_X12_vote h0 p0 p1 p2 = some x) : kd h0 p0 = 13 + 1 := by
  unfold f_X12_vote at e
  by_cases hk : kd h0 p0 = 13 + 1
  · exact hk
  · rw [if_neg hk] at e
    cases e
theorem km_X12_vote : KM yX12_vote M_X12_vote 2 := ⟨in_tb 1842 (by decide +kernel) rfl, in_tb 9 (by decide +kernel) rfl, by decide +kernel, rfl, rfl⟩
theorem hm_X12_vote : M_X12_vote.2.2.2.2.2.1 = 0 ∧ M_X12_vote.2.2.2.2.2.2.1 = 0 := ⟨rfl, rfl⟩
section
variable {l : Launch} {g : GG}
end
set_option maxRecDepth 100000 in
set_option maxHeartbeats 4000000 in
theorem c_X12_vote (l : Launch) (g : GG) (h0 : AH) (p0 : Nat) (p1 : Int32) (p2 : Int32) : CN l g yX12_vote M_X12_vote false [.ref p0, .int p1, .int p2] h0 rSi (f_X12_vote h0 p0 p1 p2) := by
  refine CN.of (by decide) rfl (fun hh => by first | rfl | cases hh) (Nat.le_of_ble_eq_true rfl) ?_
  unfold f_X12_vote
  refine a_gd (fun hkd => ?_)
  refine a_aload_n dX12_vote_0 rfl 0 rfl ?_
  refine a_iload_n dX12_vote_1 rfl 1 rfl ?_
  refine a_cV_Pi (r := p0) (ci := 13) (as := [.int p1]) (st := []) dX12_vote_2 (c_X12_isFarm l g h0 p0 p1) rfl km_X12_isFarm (hm_X12_isFarm) rfl (by decide) rfl (fun _ ee => g_X12_isFarm ee) w_methodLink_RainCoverModel_346 w_instanceMethod_RainCoverModel_isFarm__I_Z w_selects_RainCoverModel_RainCoverModel_isFarm__I_Z_RainCoverModel_isFarm__I_Z ⟨⟨by decide, by decide⟩, ⟨by decide, by decide⟩⟩ (Nat.le_of_ble_eq_true rfl) (fun v1 => ?_)
  refine a_if_ne 10 dX12_vote_5 (by decide) (fun c2 => ?_) (fun c2 => ?_)
  · refine a_iconst (v := (-1)) dX12_vote_8 (by decide) ?_
    exact a_iret dX12_vote_9 rfl rfl (by decide) (by decide)
  · refine a_iload_n dX12_vote_10 rfl 2 rfl ?_
    refine a_iconst (v := 0) dX12_vote_11 (by decide) ?_
    refine a_iconst (v := 2) dX12_vote_12 (by decide) ?_
    refine a_cS_Pi (as := [.int p2, .int 0, .int 2]) (st := []) dX12_vote_13 (c_X12_in l g h0 p2 0 2) rfl km_X12_in (hm_X12_in) w_methodLink_RainCoverModel_204 w_static_RainCoverModel_in__III_Z ⟨⟨by decide, by decide⟩, ⟨by decide, by decide⟩⟩ (Nat.le_of_ble_eq_true rfl) (fun v3 => ?_)
    refine a_if_ne 22 dX12_vote_16 (by decide) (fun c4 => ?_) (fun c4 => ?_)
    · refine a_bipush (v := (-2)) dX12_vote_19 (by decide) ?_
      exact a_iret dX12_vote_21 rfl rfl (by decide) (by decide)
    · refine a_aload_n dX12_vote_22 rfl 0 rfl ?_
      refine a_getr kc13 33 dX12_vote_23 (by decide) rfl w_fieldLink_RainCoverModel_100 (fun v5 => ?_)
      refine a_iload_n dX12_vote_26 rfl 1 rfl ?_
      refine a_iald dX12_vote_27 (fun v6 => ?_)
      refine a_istore_n (lc2 := [(3, .int v6), (0, .ref p0), (1, .int p1), (2, .int p2)]) dX12_vote_28 rfl (by decide) rfl ?_
      refine a_aload_n dX12_vote_29 rfl 1 rfl ?_
      refine a_getr kc13 33 dX12_vote_30 (by decide) rfl w_fieldLink_RainCoverModel_100 (fun v7 => ?_)
      refine a_iload_n dX12_vote_33 rfl 2 rfl ?_
      refine a_iload_n dX12_vote_34 rfl 3 rfl ?_
      refine a_iast dX12_vote_35 (fun h8 => ?_)
      refine a_iload_n dX12_vote_36 rfl 0 rfl ?_
      exact a_iret dX12_vote_37 rfl rfl (by decide) (by decide)
theorem dX12_votes_0 : decode cX12_votes 0 = .ok (.iconst 0, 1) := by decide +kernel
theorem dX12_votes_1 : decode cX12_votes 1 = .ok (.istore_n 3, 1) := by decide +kernel
theorem dX12_votes_2 : decode cX12_votes 2 = .ok (.iconst 0, 1) := by decide +kernel
theorem dX12_votes_3 : decode cX12_votes 3 = .ok (.istore 4, 2) := by decide +kernel
theorem dX12_votes_5 : decode cX12_votes 5 = .ok (.iload 4, 2) := by decide +kernel
theorem dX12_votes_7 : decode cX12_votes 7 = .ok (.aload_n 0, 1) := by decide +kernel
theorem dX12_votes_8 : decode cX12_votes 8 = .ok (.getfield 214, 3) := by decide +kernel
theorem dX12_votes_11 : decode cX12_votes 11 = .ok (.if_icmp .ge 39, 3) := by decide +kernel
theorem dX12_votes_14 : decode cX12_votes 14 = .ok (.iload_n 3, 1) := by decide +kernel
theorem dX12_votes_15 : decode cX12_votes 15 = .ok (.aload_n 0, 1) := by decide +kernel
theorem dX12_votes_16 : decode cX12_votes 16 = .ok (.getfield 97, 3) := by decide +kernel
theorem dX12_votes_19 : decode cX12_votes 19 = .ok (.iload 4, 2) := by decide +kernel
theorem dX12_votes_21 : decode cX12_votes 21 = .ok (.iaload, 1) := by decide +kernel
theorem dX12_votes_22 : decode cX12_votes 22 = .ok (.iload_n 1, 1) := by decide +kernel
theorem dX12_votes_23 : decode cX12_votes 23 = .ok (.if_icmp .ne 18, 3) := by decide +kernel
theorem dX12_votes_26 : decode cX12_votes 26 = .ok (.aload_n 0, 1) := by decide +kernel
theorem dX12_votes_27 : decode cX12_votes 27 = .ok (.getfield 100, 3) := by decide +kernel
theorem dX12_votes_30 : decode cX12_votes 30 = .ok (.iload 4, 2) := by decide +kernel
theorem dX12_votes_32 : decode cX12_votes 32 = .ok (.iaload, 1) := by decide +kernel
theorem dX12_votes_33 : decode cX12_votes 33 = .ok (.iload_n 2, 1) := by decide +kernel
theorem dX12_votes_34 : decode cX12_votes 34 = .ok (.if_icmp .ne 7, 3) := by decide +kernel
theorem dX12_votes_37 : decode cX12_votes 37 = .ok (.iconst 1, 1) := by decide +kernel
theorem dX12_votes_38 : decode cX12_votes 38 = .ok (.goto 4, 3) := by decide +kernel
theorem dX12_votes_41 : decode cX12_votes 41 = .ok (.iconst 0, 1) := by decide +kernel
theorem dX12_votes_42 : decode cX12_votes 42 = .ok (.iadd, 1) := by decide +kernel
theorem dX12_votes_43 : decode cX12_votes 43 = .ok (.istore_n 3, 1) := by decide +kernel
theorem dX12_votes_44 : decode cX12_votes 44 = .ok (.iinc 4 1, 3) := by decide +kernel
theorem dX12_votes_47 : decode cX12_votes 47 = .ok (.goto (-42), 3) := by decide +kernel
theorem dX12_votes_50 : decode cX12_votes 50 = .ok (.iload_n 3, 1) := by decide +kernel
theorem dX12_votes_51 : decode cX12_votes 51 = .ok (.ireturn, 1) := by decide +kernel
abbrev M_X12_votes : MI := (RX12, cX12_votes, 5, (some .int), ({ frames := 0, cells := 0, slots := 0, locals := 0 } : Room), 0, 0, false)
def f_X12_votes_b42 (h : AH) (N : Nat) (K5 : Nat → Int32 → Int32 → Int32 → Int32 → Option Int32) (x0 : Nat) (x1 : Int32) (x2 : Int32) (x4 : Int32) (s4 : Int32) (s5 : Int32) : Option Int32 := K5 x0 x1 x2 (s5 + s4) (x4 + 1)
def f_X12_votes_b41 (h : AH) (N : Nat) (K5 : Nat → Int32 → Int32 → Int32 → Int32 → Option Int32) (x0 : Nat) (x1 : Int32) (x2 : Int32) (x4 : Int32) (s4 : Int32) : Option Int32 := f_X12_votes_b42 h N K5 x0 x1 x2 x4 0 s4
def f_X12_votes_b5_body (h : AH) (N : Nat) (K5 : Nat → Int32 → Int32 → Int32 → Int32 → Option Int32) (x0 : Nat) (x1 : Int32) (x2 : Int32) (x3 : Int32) (x4 : Int32) : Option Int32 := (xgi h x0 13 26).bind fun v1 => (if v1 ≤ x4 then some x3 else (xgr h x0 13 32).bind fun v3 => (xia h v3 x4).bind fun v4 => (if v4 = x1 then (xgr h x0 13 33).bind fun v6 => (xia h v6 x4).bind fun v7 => (if v7 = x2 then f_X12_votes_b42 h N K5 x0 x1 x2 x4 1 x3 else f_X12_votes_b41 h N K5 x0 x1 x2 x4 x3) else f_X12_votes_b41 h N K5 x0 x1 x2 x4 x3))
def f_X12_votes_b5 (h : AH) (N : Nat) : Nat → Nat → Int32 → Int32 → Int32 → Int32 → Option Int32
  | 0, _, _, _, _, _ => none
  | n + 1, x0, x1, x2, x3, x4 => f_X12_votes_b5_body h N  (f_X12_votes_b5 h N  n) x0 x1 x2 x3 x4
def f_X12_votes (h : AH) (N : Nat) (p0 : Nat) (p1 : Int32) (p2 : Int32) : Option Int32 := if kd h p0 = 13 + 1 then f_X12_votes_b5 h N N p0 p1 p2 0 0 else none
theorem g_X12_votes {h : AH} {N : Nat} {p0 : Nat} {p1 : Int32} {p2 : Int32} {x : Int32} (e : f_X12_votes h N p0 p1 p2 = some x) : kd h p0 = 13 + 1 := by
  unfold f_X12_votes at e
  by_cases hk : kd h p0 = 13 + 1
  · exact hk
  · rw [if_neg hk] at e
    cases e
theorem km_X12_votes : KM yX12_votes M_X12_votes 2 := ⟨in_tb 1850 (by decide +kernel) rfl, in_tb 9 (by decide +kernel) rfl, by decide +kernel, rfl, rfl⟩
theorem hm_X12_votes : M_X12_votes.2.2.2.2.2.1 = 0 ∧ M_X12_votes.2.2.2.2.2.2.1 = 0 := ⟨rfl, rfl⟩
section
variable {l : Launch} {g : GG}
set_option maxRecDepth 100000 in
set_option maxHeartbeats 4000000 in
theorem t_X12_votes_b42 (h : AH) (N : Nat) (K5 : Nat → Int32 → Int32 → Int32 → Int32 → Option Int32) (hK5 : ∀ (z0 : Nat) (z1 : Int32) (z2 : Int32) (z3 : Int32) (z4 : Int32), AO l g M_X12_votes false h 5 [(0, .ref z0), (1, .int z1), (2, .int z2), (3, .int z3), (4, .int z4)] [] h 0 0 (rPi h) (K5 z0 z1 z2 z3 z4)) (x0 : Nat) (x1 : Int32) (x2 : Int32) (x4 : Int32) (s4 : Int32) (s5 : Int32) : AO l g M_X12_votes false h 42 [(0, .ref x0), (1, .int x1), (2, .int x2), (4, .int x4)] [.int s4, .int s5] h 0 0 (rPi h) (f_X12_votes_b42 h N K5 x0 x1 x2 x4 s4 s5) := by
  unfold f_X12_votes_b42
  refine a_iadd dX12_votes_42 ?_
  refine a_istore_n (lc2 := [(3, .int (s5 + s4)), (0, .ref x0), (1, .int x1), (2, .int x2), (4, .int x4)]) dX12_votes_43 rfl (by decide) rfl ?_
  refine a_iinc (q := 4) (v := (x4 + 1)) (lc2 := [(4, .int (x4 + 1)), (3, .int (s5 + s4)), (0, .ref x0), (1, .int x1), (2, .int x2)]) dX12_votes_44 rfl rfl (by decide) rfl ?_
  refine a_goto 5 dX12_votes_47 (by decide) ?_
  refine a_pick (lc2 := [(0, .ref x0), (1, .int x1), (2, .int x2), (3, .int (s5 + s4)), (4, .int (x4 + 1))]) [2, 3, 4, 1, 0] rfl ?_
  exact hK5 x0 x1 x2 (s5 + s4) (x4 + 1)
set_option maxRecDepth 100000 in
set_option maxHeartbeats 4000000 in
theorem t_X12_votes_b41 (h : AH) (N : Nat) (K5 : Nat → Int32 → Int32 → Int32 → Int32 → Option Int32) (hK5 : ∀ (z0 : Nat) (z1 : Int32) (z2 : Int32) (z3 : Int32) (z4 : Int32), AO l g M_X12_votes false h 5 [(0, .ref z0), (1, .int z1), (2, .int z2), (3, .int z3), (4, .int z4)] [] h 0 0 (rPi h) (K5 z0 z1 z2 z3 z4)) (x0 : Nat) (x1 : Int32) (x2 : Int32) (x4 : Int32) (s4 : Int32) : AO l g M_X12_votes false h 41 [(0, .ref x0), (1, .int x1), (2, .int x2), (4, .int x4)] [.int s4] h 0 0 (rPi h) (f_X12_votes_b41 h N K5 x0 x1 x2 x4 s4) := by
  unfold f_X12_votes_b41
  refine a_iconst (v := 0) dX12_votes_41 (by decide) ?_
  exact t_X12_votes_b42 h N K5 hK5 x0 x1 x2 x4 0 s4
set_option maxRecDepth 100000 in
set_option maxHeartbeats 4000000 in
theorem t_X12_votes_b5_body (h : AH) (N : Nat) (K5 : Nat → Int32 → Int32 → Int32 → Int32 → Option Int32) (hK5 : ∀ (z0 : Nat) (z1 : Int32) (z2 : Int32) (z3 : Int32) (z4 : Int32), AO l g M_X12_votes false h 5 [(0, .ref z0), (1, .int z1), (2, .int z2), (3, .int z3), (4, .int z4)] [] h 0 0 (rPi h) (K5 z0 z1 z2 z3 z4)) (x0 : Nat) (x1 : Int32) (x2 : Int32) (x3 : Int32) (x4 : Int32) : AO l g M_X12_votes false h 5 [(0, .ref x0), (1, .int x1), (2, .int x2), (3, .int x3), (4, .int x4)] [] h 0 0 (rPi h) (f_X12_votes_b5_body h N K5 x0 x1 x2 x3 x4) := by
  unfold f_X12_votes_b5_body
  refine a_iload dX12_votes_5 4 rfl ?_
  refine a_aload_n dX12_votes_7 rfl 0 rfl ?_
  refine a_geti kc13 26 dX12_votes_8 (by decide) rfl w_fieldLink_RainCoverModel_214 (fun v1 => ?_)
  refine a_icmp_ge 50 dX12_votes_11 (by decide) (fun c2 => ?_) (fun c2 => ?_)
  · refine a_iload_n dX12_votes_50 rfl 3 rfl ?_
    exact a_iret dX12_votes_51 rfl rfl (by decide) (by decide)
  · refine a_iload_n dX12_votes_14 rfl 3 rfl ?_
    refine a_aload_n dX12_votes_15 rfl 0 rfl ?_
    refine a_getr kc13 32 dX12_votes_16 (by decide) rfl w_fieldLink_RainCoverModel_97 (fun v3 => ?_)
    refine a_iload dX12_votes_19 4 rfl ?_
    refine a_iald dX12_votes_21 (fun v4 => ?_)
    refine a_iload_n dX12_votes_22 rfl 1 rfl ?_
    refine a_icmp_ne 41 dX12_votes_23 (by decide) (fun c5 => ?_) (fun c5 => ?_)
    · refine a_aload_n dX12_votes_26 rfl 0 rfl ?_
      refine a_getr kc13 33 dX12_votes_27 (by decide) rfl w_fieldLink_RainCoverModel_100 (fun v6 => ?_)
      refine a_iload dX12_votes_30 4 rfl ?_
      refine a_iald dX12_votes_32 (fun v7 => ?_)
      refine a_iload_n dX12_votes_33 rfl 2 rfl ?_
      refine a_icmp_ne 41 dX12_votes_34 (by decide) (fun c8 => ?_) (fun c8 => ?_)
      · refine a_iconst (v := 1) dX12_votes_37 (by decide) ?_
        refine a_goto 42 dX12_votes_38 (by decide) ?_
        refine a_pick (lc2 := [(0, .ref x0), (1, .int x1), (2, .int x2), (4, .int x4)]) [0, 1, 2, 4] rfl ?_
        exact t_X12_votes_b42 h N K5 hK5 x0 x1 x2 x4 1 x3
      · refine a_pick (lc2 := [(0, .ref x0), (1, .int x1), (2, .int x2), (4, .int x4)]) [0, 1, 2, 4] rfl ?_
        exact t_X12_votes_b41 h N K5 hK5 x0 x1 x2 x4 x3
    · refine a_pick (lc2 := [(0, .ref x0), (1, .int x1), (2, .int x2), (4, .int x4)]) [0, 1, 2, 4] rfl ?_
      exact t_X12_votes_b41 h N K5 hK5 x0 x1 x2 x4 x3
set_option maxRecDepth 100000 in
set_option maxHeartbeats 4000000 in
theorem t_X12_votes_b5 (h : AH) (N : Nat) : ∀ (n : Nat) (x0 : Nat) (x1 : Int32) (x2 : Int32) (x3 : Int32) (x4 : Int32) , AO l g M_X12_votes false h 5 [(0, .ref x0), (1, .int x1), (2, .int x2), (3, .int x3), (4, .int x4)] [] h 0 0 (rPi h) (f_X12_votes_b5 h N  n x0 x1 x2 x3 x4) := by
  intro n
  induction n with
  | zero => intro x0 x1 x2 x3 x4; exact a_eq rfl a_none
  | succ n ih => intro x0 x1 x2 x3 x4; exact a_eq rfl (t_X12_votes_b5_body h N  (f_X12_votes_b5 h N  n) ih x0 x1 x2 x3 x4)
end
set_option maxRecDepth 100000 in
set_option maxHeartbeats 4000000 in
theorem c_X12_votes (l : Launch) (g : GG) (h : AH) (N : Nat) (p0 : Nat) (p1 : Int32) (p2 : Int32) : CN l g yX12_votes M_X12_votes false [.ref p0, .int p1, .int p2] h ((rPi h)) (f_X12_votes h N p0 p1 p2) := by
  refine CN.of (by decide) rfl (fun hh => by first | rfl | cases hh) (Nat.le_of_ble_eq_true rfl) ?_
  unfold f_X12_votes
  refine a_gd (fun hkd => ?_)
  refine a_iconst (v := 0) dX12_votes_0 (by decide) ?_
  refine a_istore_n (lc2 := [(3, .int 0), (0, .ref p0), (1, .int p1), (2, .int p2)]) dX12_votes_1 rfl (by decide) rfl ?_
  refine a_iconst (v := 0) dX12_votes_2 (by decide) ?_
  refine a_istore (lc2 := [(4, .int 0), (3, .int 0), (0, .ref p0), (1, .int p1), (2, .int p2)]) dX12_votes_3 (by decide) rfl ?_
  refine a_pick (lc2 := [(0, .ref p0), (1, .int p1), (2, .int p2), (3, .int 0), (4, .int 0)]) [2, 3, 4, 1, 0] rfl ?_
  exact t_X12_votes_b5 h N N p0 p1 p2 0 0
theorem dX12_weight_0 : decode cX12_weight 0 = .ok (.aload_n 0, 1) := by decide +kernel
theorem dX12_weight_1 : decode cX12_weight 1 = .ok (.iload_n 1, 1) := by decide +kernel
theorem dX12_weight_2 : decode cX12_weight 2 = .ok (.iload_n 2, 1) := by decide +kernel
theorem dX12_weight_3 : decode cX12_weight 3 = .ok (.invokevirtual 367, 3) := by decide +kernel
theorem dX12_weight_6 : decode cX12_weight 6 = .ok (.istore 4, 2) := by decide +kernel
theorem dX12_weight_8 : decode cX12_weight 8 = .ok (.iload_n 3, 1) := by decide +kernel
theorem dX12_weight_9 : decode cX12_weight 9 = .ok (.ifCond .ne 7, 3) := by decide +kernel
theorem dX12_weight_12 : decode cX12_weight 12 = .ok (.lconst 1, 1) := by decide +kernel
theorem dX12_weight_13 : decode cX12_weight 13 = .ok (.goto 44, 3) := by decide +kernel
theorem dX12_weight_16 : decode cX12_weight 16 = .ok (.iload_n 3, 1) := by decide +kernel
theorem dX12_weight_17 : decode cX12_weight 17 = .ok (.iconst 1, 1) := by decide +kernel
theorem dX12_weight_18 : decode cX12_weight 18 = .ok (.if_icmp .ne 13, 3) := by decide +kernel
theorem dX12_weight_21 : decode cX12_weight 21 = .ok (.aload_n 0, 1) := by decide +kernel
theorem dX12_weight_22 : decode cX12_weight 22 = .ok (.getfield 91, 3) := by decide +kernel
theorem dX12_weight_25 : decode cX12_weight 25 = .ok (.iload_n 1, 1) := by decide +kernel
theorem dX12_weight_26 : decode cX12_weight 26 = .ok (.iaload, 1) := by decide +kernel
theorem dX12_weight_27 : decode cX12_weight 27 = .ok (.i2l, 1) := by decide +kernel
theorem dX12_weight_28 : decode cX12_weight 28 = .ok (.goto 29, 3) := by decide +kernel
theorem dX12_weight_31 : decode cX12_weight 31 = .ok (.iload 4, 2) := by decide +kernel
theorem dX12_weight_33 : decode cX12_weight 33 = .ok (.iconst (-1), 1) := by decide +kernel
theorem dX12_weight_34 : decode cX12_weight 34 = .ok (.if_icmp .ne 7, 3) := by decide +kernel
theorem dX12_weight_37 : decode cX12_weight 37 = .ok (.lconst 0, 1) := by decide +kernel
theorem dX12_weight_38 : decode cX12_weight 38 = .ok (.goto 19, 3) := by decide +kernel
theorem dX12_weight_41 : decode cX12_weight 41 = .ok (.aload_n 0, 1) := by decide +kernel
theorem dX12_weight_42 : decode cX12_weight 42 = .ok (.getfield 91, 3) := by decide +kernel
theorem dX12_weight_45 : decode cX12_weight 45 = .ok (.iload_n 1, 1) := by decide +kernel
theorem dX12_weight_46 : decode cX12_weight 46 = .ok (.iaload, 1) := by decide +kernel
theorem dX12_weight_47 : decode cX12_weight 47 = .ok (.i2l, 1) := by decide +kernel
theorem dX12_weight_48 : decode cX12_weight 48 = .ok (.aload_n 0, 1) := by decide +kernel
theorem dX12_weight_49 : decode cX12_weight 49 = .ok (.getfield 127, 3) := by decide +kernel
theorem dX12_weight_52 : decode cX12_weight 52 = .ok (.iload 4, 2) := by decide +kernel
theorem dX12_weight_54 : decode cX12_weight 54 = .ok (.iaload, 1) := by decide +kernel
theorem dX12_weight_55 : decode cX12_weight 55 = .ok (.i2l, 1) := by decide +kernel
theorem dX12_weight_56 : decode cX12_weight 56 = .ok (.lmul, 1) := by decide +kernel
theorem dX12_weight_57 : decode cX12_weight 57 = .ok (.lreturn, 1) := by decide +kernel
abbrev M_X12_weight : MI := (RX12, cX12_weight, 5, (some .long), ({ frames := 1, cells := 0, slots := 0, locals := 23 } : Room), 0, 0, false)
def f_X12_weight (h : AH) (N : Nat) (p0 : Nat) (p1 : Int32) (p2 : Int32) (p3 : Int32) : Option Int64 := if kd h p0 = 13 + 1 then (f_X12_lookOf h N p0 p1 p2).bind fun v1 => (if p3 = 0 then some 1 else (if p3 = 1 then (xgr h p0 13 30).bind fun v4 => (xia h v4 p1).bind fun v5 => some (v5 : Int32).toInt64 else (if v1 = (-1) then some 0 else (xgr h p0 13 30).bind fun v7 => (xia h v7 p1).bind fun v8 => (xgr h p0 13 44).bind fun v9 => (xia h v9 v1).bind fun v10 => some ((v8 : Int32).toInt64 * (v10 : Int32).toInt64)))) else none
theorem g_X12_weight {h : AH} {N : Nat} {p0 : Nat} {p1 : Int32} {p2 : Int32} {p3 : Int32} {x : Int64} (e : f_X12_weight h N p0 p1 p2 p3 = some x) : kd h p0 = 13 + 1 := by
  unfold f_X12_weight at e
  by_cases hk : kd h p0 = 13 + 1
  · exact hk
  · rw [if_neg hk] at e
    cases e
theorem km_X12_weight : KM yX12_weight M_X12_weight 3 := ⟨in_tb 1854 (by decide +kernel) rfl, in_tb 9 (by decide +kernel) rfl, by decide +kernel, rfl, rfl⟩
theorem hm_X12_weight : M_X12_weight.2.2.2.2.2.1 = 0 ∧ M_X12_weight.2.2.2.2.2.2.1 = 0 := ⟨rfl, rfl⟩
section
variable {l : Launch} {g : GG}
end
set_option maxRecDepth 100000 in
set_option maxHeartbeats 4000000 in
theorem c_X12_weight (l : Launch) (g : GG) (h : AH) (N : Nat) (p0 : Nat) (p1 : Int32) (p2 : Int32) (p3 : Int32) : CN l g yX12_weight M_X12_weight false [.ref p0, .int p1, .int p2, .int p3] h ((rPl h)) (f_X12_weight h N p0 p1 p2 p3) := by
  refine CN.of (by decide) rfl (fun hh => by first | rfl | cases hh) (Nat.le_of_ble_eq_true rfl) ?_
  unfold f_X12_weight
  refine a_gd (fun hkd => ?_)
  refine a_aload_n dX12_weight_0 rfl 0 rfl ?_
  refine a_iload_n dX12_weight_1 rfl 1 rfl ?_
  refine a_iload_n dX12_weight_2 rfl 2 rfl ?_
  refine a_cV_Pi (r := p0) (ci := 13) (as := [.int p1, .int p2]) (st := []) dX12_weight_3 (c_X12_lookOf l g h N p0 p1 p2) rfl km_X12_lookOf (hm_X12_lookOf) rfl (by decide) rfl (fun _ ee => g_X12_lookOf ee) w_methodLink_RainCoverModel_367 w_instanceMethod_RainCoverModel_lookOf__II_I w_selects_RainCoverModel_RainCoverModel_lookOf__II_I_RainCoverModel_lookOf__II_I ⟨⟨by decide, by decide⟩, ⟨by decide, by decide⟩⟩ (Nat.le_of_ble_eq_true rfl) (fun v1 => ?_)
  refine a_istore (lc2 := [(4, .int v1), (0, .ref p0), (1, .int p1), (2, .int p2), (3, .int p3)]) dX12_weight_6 (by decide) rfl ?_
  refine a_iload_n dX12_weight_8 rfl 4 rfl ?_
  refine a_if_ne 16 dX12_weight_9 (by decide) (fun c2 => ?_) (fun c2 => ?_)
  · refine a_lconst (v := 1) dX12_weight_12 (by decide) ?_
    refine a_goto 57 dX12_weight_13 (by decide) ?_
    exact a_lret dX12_weight_57 rfl rfl (by decide) (by decide)
  · refine a_iload_n dX12_weight_16 rfl 4 rfl ?_
    refine a_iconst (v := 1) dX12_weight_17 (by decide) ?_
    refine a_icmp_ne 31 dX12_weight_18 (by decide) (fun c3 => ?_) (fun c3 => ?_)
    · refine a_aload_n dX12_weight_21 rfl 1 rfl ?_
      refine a_getr kc13 30 dX12_weight_22 (by decide) rfl w_fieldLink_RainCoverModel_91 (fun v4 => ?_)
      refine a_iload_n dX12_weight_25 rfl 2 rfl ?_
      refine a_iald dX12_weight_26 (fun v5 => ?_)
      refine a_i2l dX12_weight_27 ?_
      refine a_goto 57 dX12_weight_28 (by decide) ?_
      exact a_lret dX12_weight_57 rfl rfl (by decide) (by decide)
    · refine a_iload dX12_weight_31 0 rfl ?_
      refine a_iconst (v := (-1)) dX12_weight_33 (by decide) ?_
      refine a_icmp_ne 41 dX12_weight_34 (by decide) (fun c6 => ?_) (fun c6 => ?_)
      · refine a_lconst (v := 0) dX12_weight_37 (by decide) ?_
        refine a_goto 57 dX12_weight_38 (by decide) ?_
        exact a_lret dX12_weight_57 rfl rfl (by decide) (by decide)
      · refine a_aload_n dX12_weight_41 rfl 1 rfl ?_
        refine a_getr kc13 30 dX12_weight_42 (by decide) rfl w_fieldLink_RainCoverModel_91 (fun v7 => ?_)
        refine a_iload_n dX12_weight_45 rfl 2 rfl ?_
        refine a_iald dX12_weight_46 (fun v8 => ?_)
        refine a_i2l dX12_weight_47 ?_
        refine a_aload_n dX12_weight_48 rfl 1 rfl ?_
        refine a_getr kc13 44 dX12_weight_49 (by decide) rfl w_fieldLink_RainCoverModel_127 (fun v9 => ?_)
        refine a_iload dX12_weight_52 0 rfl ?_
        refine a_iald dX12_weight_54 (fun v10 => ?_)
        refine a_i2l dX12_weight_55 ?_
        refine a_lmul dX12_weight_56 ?_
        exact a_lret dX12_weight_57 rfl rfl (by decide) (by decide)
theorem dX12_share_0 : decode cX12_share 0 = .ok (.aload_n 0, 1) := by decide +kernel
theorem dX12_share_1 : decode cX12_share 1 = .ok (.iload_n 1, 1) := by decide +kernel
theorem dX12_share_2 : decode cX12_share 2 = .ok (.invokevirtual 346, 3) := by decide +kernel
theorem dX12_share_5 : decode cX12_share 5 = .ok (.ifCond .eq 10, 3) := by decide +kernel
theorem dX12_share_8 : decode cX12_share 8 = .ok (.iload_n 2, 1) := by decide +kernel
theorem dX12_share_9 : decode cX12_share 9 = .ok (.invokestatic 221, 3) := by decide +kernel
theorem dX12_share_12 : decode cX12_share 12 = .ok (.ifCond .ne 6, 3) := by decide +kernel
theorem dX12_share_15 : decode cX12_share 15 = .ok (.bipush (-5), 2) := by decide +kernel
theorem dX12_share_17 : decode cX12_share 17 = .ok (.ireturn, 1) := by decide +kernel
theorem dX12_share_18 : decode cX12_share 18 = .ok (.aload_n 0, 1) := by decide +kernel
theorem dX12_share_19 : decode cX12_share 19 = .ok (.getfield 97, 3) := by decide +kernel
theorem dX12_share_22 : decode cX12_share 22 = .ok (.iload_n 1, 1) := by decide +kernel
theorem dX12_share_23 : decode cX12_share 23 = .ok (.iaload, 1) := by decide +kernel
theorem dX12_share_24 : decode cX12_share 24 = .ok (.istore_n 3, 1) := by decide +kernel
theorem dX12_share_25 : decode cX12_share 25 = .ok (.iload_n 3, 1) := by decide +kernel
theorem dX12_share_26 : decode cX12_share 26 = .ok (.iconst (-1), 1) := by decide +kernel
theorem dX12_share_27 : decode cX12_share 27 = .ok (.if_icmp .ne 11, 3) := by decide +kernel
theorem dX12_share_30 : decode cX12_share 30 = .ok (.aload_n 0, 1) := by decide +kernel
theorem dX12_share_31 : decode cX12_share 31 = .ok (.iconst 0, 1) := by decide +kernel
theorem dX12_share_32 : decode cX12_share 32 = .ok (.iload_n 1, 1) := by decide +kernel
theorem dX12_share_33 : decode cX12_share 33 = .ok (.iload_n 2, 1) := by decide +kernel
theorem dX12_share_34 : decode cX12_share 34 = .ok (.invokevirtual 361, 3) := by decide +kernel
theorem dX12_share_37 : decode cX12_share 37 = .ok (.ireturn, 1) := by decide +kernel
theorem dX12_share_38 : decode cX12_share 38 = .ok (.iconst 0, 1) := by decide +kernel
theorem dX12_share_39 : decode cX12_share 39 = .ok (.istore 4, 2) := by decide +kernel
theorem dX12_share_41 : decode cX12_share 41 = .ok (.iconst 1, 1) := by decide +kernel
theorem dX12_share_42 : decode cX12_share 42 = .ok (.istore 5, 2) := by decide +kernel
theorem dX12_share_44 : decode cX12_share 44 = .ok (.iload 5, 2) := by decide +kernel
theorem dX12_share_46 : decode cX12_share 46 = .ok (.iconst 3, 1) := by decide +kernel
theorem dX12_share_47 : decode cX12_share 47 = .ok (.if_icmp .ge 35, 3) := by decide +kernel
theorem dX12_share_50 : decode cX12_share 50 = .ok (.aload_n 0, 1) := by decide +kernel
theorem dX12_share_51 : decode cX12_share 51 = .ok (.iload_n 3, 1) := by decide +kernel
theorem dX12_share_52 : decode cX12_share 52 = .ok (.iload 5, 2) := by decide +kernel
theorem dX12_share_54 : decode cX12_share 54 = .ok (.invokevirtual 448, 3) := by decide +kernel
theorem dX12_share_57 : decode cX12_share 57 = .ok (.aload_n 0, 1) := by decide +kernel
theorem dX12_share_58 : decode cX12_share 58 = .ok (.iload_n 3, 1) := by decide +kernel
theorem dX12_share_59 : decode cX12_share 59 = .ok (.iload 4, 2) := by decide +kernel
theorem dX12_share_61 : decode cX12_share 61 = .ok (.invokevirtual 448, 3) := by decide +kernel
theorem dX12_share_64 : decode cX12_share 64 = .ok (.if_icmp .le 8, 3) := by decide +kernel
theorem dX12_share_67 : decode cX12_share 67 = .ok (.iload 5, 2) := by decide +kernel
theorem dX12_share_69 : decode cX12_share 69 = .ok (.goto 5, 3) := by decide +kernel
theorem dX12_share_72 : decode cX12_share 72 = .ok (.iload 4, 2) := by decide +kernel
theorem dX12_share_74 : decode cX12_share 74 = .ok (.istore 4, 2) := by decide +kernel
theorem dX12_share_76 : decode cX12_share 76 = .ok (.iinc 5 1, 3) := by decide +kernel
theorem dX12_share_79 : decode cX12_share 79 = .ok (.goto (-35), 3) := by decide +kernel
theorem dX12_share_82 : decode cX12_share 82 = .ok (.lconst 0, 1) := by decide +kernel
theorem dX12_share_83 : decode cX12_share 83 = .ok (.lstore 5, 2) := by decide +kernel
theorem dX12_share_85 : decode cX12_share 85 = .ok (.lconst 0, 1) := by decide +kernel
theorem dX12_share_86 : decode cX12_share 86 = .ok (.lstore 7, 2) := by decide +kernel
theorem dX12_share_88 : decode cX12_share 88 = .ok (.iconst 0, 1) := by decide +kernel
theorem dX12_share_89 : decode cX12_share 89 = .ok (.istore 9, 2) := by decide +kernel
theorem dX12_share_91 : decode cX12_share 91 = .ok (.iload 9, 2) := by decide +kernel
theorem dX12_share_93 : decode cX12_share 93 = .ok (.aload_n 0, 1) := by decide +kernel
theorem dX12_share_94 : decode cX12_share 94 = .ok (.getfield 214, 3) := by decide +kernel
theorem dX12_share_97 : decode cX12_share 97 = .ok (.if_icmp .ge 67, 3) := by decide +kernel
theorem dX12_share_100 : decode cX12_share 100 = .ok (.lload 5, 2) := by decide +kernel
theorem dX12_share_102 : decode cX12_share 102 = .ok (.aload_n 0, 1) := by decide +kernel
theorem dX12_share_103 : decode cX12_share 103 = .ok (.getfield 97, 3) := by decide +kernel
theorem dX12_share_106 : decode cX12_share 106 = .ok (.iload 9, 2) := by decide +kernel
theorem dX12_share_108 : decode cX12_share 108 = .ok (.iaload, 1) := by decide +kernel
theorem dX12_share_109 : decode cX12_share 109 = .ok (.iload_n 3, 1) := by decide +kernel
theorem dX12_share_110 : decode cX12_share 110 = .ok (.if_icmp .ne 15, 3) := by decide +kernel
theorem dX12_share_113 : decode cX12_share 113 = .ok (.aload_n 0, 1) := by decide +kernel
theorem dX12_share_114 : decode cX12_share 114 = .ok (.iconst 0, 1) := by decide +kernel
theorem dX12_share_115 : decode cX12_share 115 = .ok (.iload 9, 2) := by decide +kernel
theorem dX12_share_117 : decode cX12_share 117 = .ok (.iload_n 2, 1) := by decide +kernel
theorem dX12_share_118 : decode cX12_share 118 = .ok (.invokevirtual 361, 3) := by decide +kernel
theorem dX12_share_121 : decode cX12_share 121 = .ok (.i2l, 1) := by decide +kernel
theorem dX12_share_122 : decode cX12_share 122 = .ok (.goto 4, 3) := by decide +kernel
theorem dX12_share_125 : decode cX12_share 125 = .ok (.lconst 0, 1) := by decide +kernel
theorem dX12_share_126 : decode cX12_share 126 = .ok (.ladd, 1) := by decide +kernel
theorem dX12_share_127 : decode cX12_share 127 = .ok (.lstore 5, 2) := by decide +kernel
theorem dX12_share_129 : decode cX12_share 129 = .ok (.lload 7, 2) := by decide +kernel
theorem dX12_share_131 : decode cX12_share 131 = .ok (.aload_n 0, 1) := by decide +kernel
theorem dX12_share_132 : decode cX12_share 132 = .ok (.getfield 97, 3) := by decide +kernel
theorem dX12_share_135 : decode cX12_share 135 = .ok (.iload 9, 2) := by decide +kernel
theorem dX12_share_137 : decode cX12_share 137 = .ok (.iaload, 1) := by decide +kernel
theorem dX12_share_138 : decode cX12_share 138 = .ok (.iload_n 3, 1) := by decide +kernel
theorem dX12_share_139 : decode cX12_share 139 = .ok (.if_icmp .ne 15, 3) := by decide +kernel
theorem dX12_share_142 : decode cX12_share 142 = .ok (.aload_n 0, 1) := by decide +kernel
theorem dX12_share_143 : decode cX12_share 143 = .ok (.iload 9, 2) := by decide +kernel
theorem dX12_share_145 : decode cX12_share 145 = .ok (.iload_n 2, 1) := by decide +kernel
theorem dX12_share_146 : decode cX12_share 146 = .ok (.iload 4, 2) := by decide +kernel
theorem dX12_share_148 : decode cX12_share 148 = .ok (.invokevirtual 451, 3) := by decide +kernel
theorem dX12_share_151 : decode cX12_share 151 = .ok (.goto 4, 3) := by decide +kernel
theorem dX12_share_154 : decode cX12_share 154 = .ok (.lconst 0, 1) := by decide +kernel
theorem dX12_share_155 : decode cX12_share 155 = .ok (.ladd, 1) := by decide +kernel
theorem dX12_share_156 : decode cX12_share 156 = .ok (.lstore 7, 2) := by decide +kernel
theorem dX12_share_158 : decode cX12_share 158 = .ok (.iinc 9 1, 3) := by decide +kernel
theorem dX12_share_161 : decode cX12_share 161 = .ok (.goto (-70), 3) := by decide +kernel
theorem dX12_share_164 : decode cX12_share 164 = .ok (.lload 7, 2) := by decide +kernel
theorem dX12_share_166 : decode cX12_share 166 = .ok (.lconst 0, 1) := by decide +kernel
theorem dX12_share_167 : decode cX12_share 167 = .ok (.lcmp, 1) := by decide +kernel
theorem dX12_share_168 : decode cX12_share 168 = .ok (.ifCond .ne 29, 3) := by decide +kernel
theorem dX12_share_171 : decode cX12_share 171 = .ok (.iconst 0, 1) := by decide +kernel
theorem dX12_share_172 : decode cX12_share 172 = .ok (.istore 4, 2) := by decide +kernel
theorem dX12_share_174 : decode cX12_share 174 = .ok (.aload_n 0, 1) := by decide +kernel
theorem dX12_share_175 : decode cX12_share 175 = .ok (.iload_n 3, 1) := by decide +kernel
theorem dX12_share_176 : decode cX12_share 176 = .ok (.iconst 0, 1) := by decide +kernel
theorem dX12_share_177 : decode cX12_share 177 = .ok (.invokevirtual 448, 3) := by decide +kernel
theorem dX12_share_180 : decode cX12_share 180 = .ok (.aload_n 0, 1) := by decide +kernel
theorem dX12_share_181 : decode cX12_share 181 = .ok (.iload_n 3, 1) := by decide +kernel
theorem dX12_share_182 : decode cX12_share 182 = .ok (.iconst 1, 1) := by decide +kernel
theorem dX12_share_183 : decode cX12_share 183 = .ok (.invokevirtual 448, 3) := by decide +kernel
theorem dX12_share_186 : decode cX12_share 186 = .ok (.iadd, 1) := by decide +kernel
theorem dX12_share_187 : decode cX12_share 187 = .ok (.aload_n 0, 1) := by decide +kernel
theorem dX12_share_188 : decode cX12_share 188 = .ok (.iload_n 3, 1) := by decide +kernel
theorem dX12_share_189 : decode cX12_share 189 = .ok (.iconst 2, 1) := by decide +kernel
theorem dX12_share_190 : decode cX12_share 190 = .ok (.invokevirtual 448, 3) := by decide +kernel
theorem dX12_share_193 : decode cX12_share 193 = .ok (.iadd, 1) := by decide +kernel
theorem dX12_share_194 : decode cX12_share 194 = .ok (.i2l, 1) := by decide +kernel
theorem dX12_share_195 : decode cX12_share 195 = .ok (.lstore 7, 2) := by decide +kernel
theorem dX12_share_197 : decode cX12_share 197 = .ok (.lload 5, 2) := by decide +kernel
theorem dX12_share_199 : decode cX12_share 199 = .ok (.lstore 9, 2) := by decide +kernel
theorem dX12_share_201 : decode cX12_share 201 = .ok (.iconst 0, 1) := by decide +kernel
theorem dX12_share_202 : decode cX12_share 202 = .ok (.istore 11, 2) := by decide +kernel
theorem dX12_share_204 : decode cX12_share 204 = .ok (.iconst 0, 1) := by decide +kernel
theorem dX12_share_205 : decode cX12_share 205 = .ok (.istore 12, 2) := by decide +kernel
theorem dX12_share_207 : decode cX12_share 207 = .ok (.iload 12, 2) := by decide +kernel
theorem dX12_share_209 : decode cX12_share 209 = .ok (.aload_n 0, 1) := by decide +kernel
theorem dX12_share_210 : decode cX12_share 210 = .ok (.getfield 214, 3) := by decide +kernel
theorem dX12_share_213 : decode cX12_share 213 = .ok (.if_icmp .ge 71, 3) := by decide +kernel
theorem dX12_share_216 : decode cX12_share 216 = .ok (.lload 9, 2) := by decide +kernel
theorem dX12_share_218 : decode cX12_share 218 = .ok (.aload_n 0, 1) := by decide +kernel
theorem dX12_share_219 : decode cX12_share 219 = .ok (.getfield 97, 3) := by decide +kernel
theorem dX12_share_222 : decode cX12_share 222 = .ok (.iload 12, 2) := by decide +kernel
theorem dX12_share_224 : decode cX12_share 224 = .ok (.iaload, 1) := by decide +kernel
theorem dX12_share_225 : decode cX12_share 225 = .ok (.iload_n 3, 1) := by decide +kernel
theorem dX12_share_226 : decode cX12_share 226 = .ok (.if_icmp .ne 21, 3) := by decide +kernel
theorem dX12_share_229 : decode cX12_share 229 = .ok (.lload 5, 2) := by decide +kernel
theorem dX12_share_231 : decode cX12_share 231 = .ok (.aload_n 0, 1) := by decide +kernel
theorem dX12_share_232 : decode cX12_share 232 = .ok (.iload 12, 2) := by decide +kernel
theorem dX12_share_234 : decode cX12_share 234 = .ok (.iload_n 2, 1) := by decide +kernel
theorem dX12_share_235 : decode cX12_share 235 = .ok (.iload 4, 2) := by decide +kernel
theorem dX12_share_237 : decode cX12_share 237 = .ok (.invokevirtual 451, 3) := by decide +kernel
theorem dX12_share_240 : decode cX12_share 240 = .ok (.lmul, 1) := by decide +kernel
theorem dX12_share_241 : decode cX12_share 241 = .ok (.lload 7, 2) := by decide +kernel
theorem dX12_share_243 : decode cX12_share 243 = .ok (.ldiv, 1) := by decide +kernel
theorem dX12_share_244 : decode cX12_share 244 = .ok (.goto 4, 3) := by decide +kernel
theorem dX12_share_247 : decode cX12_share 247 = .ok (.lconst 0, 1) := by decide +kernel
theorem dX12_share_248 : decode cX12_share 248 = .ok (.lsub, 1) := by decide +kernel
theorem dX12_share_249 : decode cX12_share 249 = .ok (.lstore 9, 2) := by decide +kernel
theorem dX12_share_251 : decode cX12_share 251 = .ok (.iload 11, 2) := by decide +kernel
theorem dX12_share_253 : decode cX12_share 253 = .ok (.aload_n 0, 1) := by decide +kernel
theorem dX12_share_254 : decode cX12_share 254 = .ok (.getfield 97, 3) := by decide +kernel
theorem dX12_share_257 : decode cX12_share 257 = .ok (.iload 12, 2) := by decide +kernel
theorem dX12_share_259 : decode cX12_share 259 = .ok (.iaload, 1) := by decide +kernel
theorem dX12_share_260 : decode cX12_share 260 = .ok (.iload_n 3, 1) := by decide +kernel
theorem dX12_share_261 : decode cX12_share 261 = .ok (.if_icmp .ne 13, 3) := by decide +kernel
theorem dX12_share_264 : decode cX12_share 264 = .ok (.iload 12, 2) := by decide +kernel
theorem dX12_share_266 : decode cX12_share 266 = .ok (.iload_n 1, 1) := by decide +kernel
theorem dX12_share_267 : decode cX12_share 267 = .ok (.if_icmp .ge 7, 3) := by decide +kernel
theorem dX12_share_270 : decode cX12_share 270 = .ok (.iconst 1, 1) := by decide +kernel
theorem dX12_share_271 : decode cX12_share 271 = .ok (.goto 4, 3) := by decide +kernel
theorem dX12_share_274 : decode cX12_share 274 = .ok (.iconst 0, 1) := by decide +kernel
theorem dX12_share_275 : decode cX12_share 275 = .ok (.iadd, 1) := by decide +kernel
theorem dX12_share_276 : decode cX12_share 276 = .ok (.istore 11, 2) := by decide +kernel
theorem dX12_share_278 : decode cX12_share 278 = .ok (.iinc 12 1, 3) := by decide +kernel
theorem dX12_share_281 : decode cX12_share 281 = .ok (.goto (-74), 3) := by decide +kernel
theorem dX12_share_284 : decode cX12_share 284 = .ok (.lload 5, 2) := by decide +kernel
theorem dX12_share_286 : decode cX12_share 286 = .ok (.aload_n 0, 1) := by decide +kernel
theorem dX12_share_287 : decode cX12_share 287 = .ok (.iload_n 1, 1) := by decide +kernel
theorem dX12_share_288 : decode cX12_share 288 = .ok (.iload_n 2, 1) := by decide +kernel
theorem dX12_share_289 : decode cX12_share 289 = .ok (.iload 4, 2) := by decide +kernel
theorem dX12_share_291 : decode cX12_share 291 = .ok (.invokevirtual 451, 3) := by decide +kernel
theorem dX12_share_294 : decode cX12_share 294 = .ok (.lmul, 1) := by decide +kernel
theorem dX12_share_295 : decode cX12_share 295 = .ok (.lload 7, 2) := by decide +kernel
theorem dX12_share_297 : decode cX12_share 297 = .ok (.ldiv, 1) := by decide +kernel
theorem dX12_share_298 : decode cX12_share 298 = .ok (.iload 11, 2) := by decide +kernel
theorem dX12_share_300 : decode cX12_share 300 = .ok (.i2l, 1) := by decide +kernel
theorem dX12_share_301 : decode cX12_share 301 = .ok (.lload 9, 2) := by decide +kernel
theorem dX12_share_303 : decode cX12_share 303 = .ok (.lcmp, 1) := by decide +kernel
theorem dX12_share_304 : decode cX12_share 304 = .ok (.ifCond .ge 7, 3) := by decide +kernel
theorem dX12_share_307 : decode cX12_share 307 = .ok (.lconst 1, 1) := by decide +kernel
theorem dX12_share_308 : decode cX12_share 308 = .ok (.goto 4, 3) := by decide +kernel
theorem dX12_share_311 : decode cX12_share 311 = .ok (.lconst 0, 1) := by decide +kernel
theorem dX12_share_312 : decode cX12_share 312 = .ok (.ladd, 1) := by decide +kernel
theorem dX12_share_313 : decode cX12_share 313 = .ok (.l2i, 1) := by decide +kernel
theorem dX12_share_314 : decode cX12_share 314 = .ok (.ireturn, 1) := by decide +kernel
abbrev M_X12_share : MI := (RX12, cX12_share, 13, (some .int), ({ frames := 9, cells := 0, slots := 0, locals := 228 } : Room), 0, 0, false)
def f_X12_share_b74 (h : AH) (N : Nat) (K44 : Nat → Int32 → Int32 → Int32 → Int32 → Int32 → Option Int32) (x0 : Nat) (x1 : Int32) (x2 : Int32) (x3 : Int32) (x5 : Int32) (s5 : Int32) : Option Int32 := K44 x0 x1 x2 x3 s5 (x5 + 1)
def f_X12_share_b155 (h : AH) (N : Nat) (K91 : Nat → Int32 → Int32 → Int32 → Int32 → Int64 → Int64 → Int32 → Option Int32) (x0 : Nat) (x1 : Int32) (x2 : Int32) (x3 : Int32) (x4 : Int32) (x5 : Int64) (x9 : Int32) (s7 : Int64) (s8 : Int64) : Option Int32 := K91 x0 x1 x2 x3 x4 x5 (s8 + s7) (x9 + 1)
def f_X12_share_b126 (h : AH) (N : Nat) (K91 : Nat → Int32 → Int32 → Int32 → Int32 → Int64 → Int64 → Int32 → Option Int32) (x0 : Nat) (x1 : Int32) (x2 : Int32) (x3 : Int32) (x4 : Int32) (x7 : Int64) (x9 : Int32) (s7 : Int64) (s8 : Int64) : Option Int32 := (xgr h x0 13 32).bind fun v23 => (xia h v23 x9).bind fun v24 => (if v24 = x3 then (f_X12_weight h N x0 x9 x2 x4).bind fun v26 => f_X12_share_b155 h N K91 x0 x1 x2 x3 x4 (s8 + s7) x9 v26 x7 else f_X12_share_b155 h N K91 x0 x1 x2 x3 x4 (s8 + s7) x9 0 x7)
def f_X12_share_b275 (h : AH) (N : Nat) (K207 : Nat → Int32 → Int32 → Int32 → Int32 → Int64 → Int64 → Int64 → Int32 → Int32 → Option Int32) (x0 : Nat) (x1 : Int32) (x2 : Int32) (x3 : Int32) (x4 : Int32) (x5 : Int64) (x7 : Int64) (x9 : Int64) (x12 : Int32) (s9 : Int32) (s10 : Int32) : Option Int32 := K207 x0 x1 x2 x3 x4 x5 x7 x9 (s10 + s9) (x12 + 1)
def f_X12_share_b274 (h : AH) (N : Nat) (K207 : Nat → Int32 → Int32 → Int32 → Int32 → Int64 → Int64 → Int64 → Int32 → Int32 → Option Int32) (x0 : Nat) (x1 : Int32) (x2 : Int32) (x3 : Int32) (x4 : Int32) (x5 : Int64) (x7 : Int64) (x9 : Int64) (x12 : Int32) (s9 : Int32) : Option Int32 := f_X12_share_b275 h N K207 x0 x1 x2 x3 x4 x5 x7 x9 x12 0 s9
def f_X12_share_b248 (h : AH) (N : Nat) (K207 : Nat → Int32 → Int32 → Int32 → Int32 → Int64 → Int64 → Int64 → Int32 → Int32 → Option Int32) (x0 : Nat) (x1 : Int32) (x2 : Int32) (x3 : Int32) (x4 : Int32) (x5 : Int64) (x7 : Int64) (x11 : Int32) (x12 : Int32) (s9 : Int64) (s10 : Int64) : Option Int32 := (xgr h x0 13 32).bind fun v37 => (xia h v37 x12).bind fun v38 => (if v38 = x3 then (if x1 ≤ x12 then f_X12_share_b274 h N K207 x0 x1 x2 x3 x4 x5 x7 (s10 - s9) x12 x11 else f_X12_share_b275 h N K207 x0 x1 x2 x3 x4 x5 x7 (s10 - s9) x12 1 x11) else f_X12_share_b274 h N K207 x0 x1 x2 x3 x4 x5 x7 (s10 - s9) x12 x11)
def f_X12_share_b207_body (h : AH) (N : Nat) (K207 : Nat → Int32 → Int32 → Int32 → Int32 → Int64 → Int64 → Int64 → Int32 → Int32 → Option Int32) (x0 : Nat) (x1 : Int32) (x2 : Int32) (x3 : Int32) (x4 : Int32) (x5 : Int64) (x7 : Int64) (x9 : Int64) (x11 : Int32) (x12 : Int32) : Option Int32 := (xgi h x0 13 26).bind fun v27 => (if v27 ≤ x12 then (f_X12_weight h N x0 x1 x2 x4).bind fun v29 => (if x7 = 0 then none else (if 0 ≤ (lg_cmp (x11 : Int32).toInt64 x9) then some ((((x5 * v29) / x7) + 0) : Int64).toInt32 else some ((((x5 * v29) / x7) + 1) : Int64).toInt32)) else (xgr h x0 13 32).bind fun v32 => (xia h v32 x12).bind fun v33 => (if v33 = x3 then (f_X12_weight h N x0 x12 x2 x4).bind fun v35 => (if x7 = 0 then none else f_X12_share_b248 h N K207 x0 x1 x2 x3 x4 x5 x7 x11 x12 ((x5 * v35) / x7) x9) else f_X12_share_b248 h N K207 x0 x1 x2 x3 x4 x5 x7 x11 x12 0 x9))
def f_X12_share_b207 (h : AH) (N : Nat) : Nat → Nat → Int32 → Int32 → Int32 → Int32 → Int64 → Int64 → Int64 → Int32 → Int32 → Option Int32
  | 0, _, _, _, _, _, _, _, _, _, _ => none
  | n + 1, x0, x1, x2, x3, x4, x5, x7, x9, x11, x12 => f_X12_share_b207_body h N  (f_X12_share_b207 h N  n) x0 x1 x2 x3 x4 x5 x7 x9 x11 x12
def f_X12_share_b197 (h : AH) (N : Nat) (x0 : Nat) (x1 : Int32) (x2 : Int32) (x3 : Int32) (x4 : Int32) (x5 : Int64) (x7 : Int64) : Option Int32 := f_X12_share_b207 h N N x0 x1 x2 x3 x4 x5 x7 x5 0 0
def f_X12_share_b91_body (h : AH) (N : Nat) (K91 : Nat → Int32 → Int32 → Int32 → Int32 → Int64 → Int64 → Int32 → Option Int32) (x0 : Nat) (x1 : Int32) (x2 : Int32) (x3 : Int32) (x4 : Int32) (x5 : Int64) (x7 : Int64) (x9 : Int32) : Option Int32 := (xgi h x0 13 26).bind fun v13 => (if v13 ≤ x9 then (if (lg_cmp x7 0) = 0 then (f_X12_votes h N x0 x3 0).bind fun v16 => (f_X12_votes h N x0 x3 1).bind fun v17 => (f_X12_votes h N x0 x3 2).bind fun v18 => f_X12_share_b197 h N x0 x1 x2 x3 0 x5 (((v16 + v17) + v18) : Int32).toInt64 else f_X12_share_b197 h N x0 x1 x2 x3 x4 x5 x7) else (xgr h x0 13 32).bind fun v19 => (xia h v19 x9).bind fun v20 => (if v20 = x3 then (f_X12_dueOf h N x0 0 x9 x2).bind fun v22 => f_X12_share_b126 h N K91 x0 x1 x2 x3 x4 x7 x9 (v22 : Int32).toInt64 x5 else f_X12_share_b126 h N K91 x0 x1 x2 x3 x4 x7 x9 0 x5))
def f_X12_share_b91 (h : AH) (N : Nat) : Nat → Nat → Int32 → Int32 → Int32 → Int32 → Int64 → Int64 → Int32 → Option Int32
  | 0, _, _, _, _, _, _, _, _ => none
  | n + 1, x0, x1, x2, x3, x4, x5, x7, x9 => f_X12_share_b91_body h N  (f_X12_share_b91 h N  n) x0 x1 x2 x3 x4 x5 x7 x9
def f_X12_share_b44_body (h : AH) (N : Nat) (K44 : Nat → Int32 → Int32 → Int32 → Int32 → Int32 → Option Int32) (x0 : Nat) (x1 : Int32) (x2 : Int32) (x3 : Int32) (x4 : Int32) (x5 : Int32) : Option Int32 := (if 3 ≤ x5 then f_X12_share_b91 h N N x0 x1 x2 x3 x4 0 0 0 else (f_X12_votes h N x0 x3 x5).bind fun v10 => (f_X12_votes h N x0 x3 x4).bind fun v11 => (if v10 ≤ v11 then f_X12_share_b74 h N K44 x0 x1 x2 x3 x5 x4 else f_X12_share_b74 h N K44 x0 x1 x2 x3 x5 x5))
def f_X12_share_b44 (h : AH) (N : Nat) : Nat → Nat → Int32 → Int32 → Int32 → Int32 → Int32 → Option Int32
  | 0, _, _, _, _, _, _ => none
  | n + 1, x0, x1, x2, x3, x4, x5 => f_X12_share_b44_body h N  (f_X12_share_b44 h N  n) x0 x1 x2 x3 x4 x5
def f_X12_share (h : AH) (N : Nat) (p0 : Nat) (p1 : Int32) (p2 : Int32) : Option Int32 := if kd h p0 = 13 + 1 then (f_X12_isFarm h p0 p1).bind fun v1 => (if v1 = 0 then some (-5) else (f_X12_isSeason h p2).bind fun v3 => (if v3 = 0 then some (-5) else (xgr h p0 13 32).bind fun v5 => (xia h v5 p1).bind fun v6 => (if v6 = (-1) then (f_X12_dueOf h N p0 0 p1 p2).bind fun v8 => some v8 else f_X12_share_b44 h N N p0 p1 p2 v6 0 1))) else none
theorem g_X12_share {h : AH} {N : Nat} {p0 : Nat} {p1 : Int32} {p2 : Int32} {x : Int32} (e : f_X12_share h N p0 p1 p2 = some x) : kd h p0 = 13 + 1 := by
  unfold f_X12_share at e
  by_cases hk : kd h p0 = 13 + 1
  · exact hk
  · rw [if_neg hk] at e
    cases e
theorem km_X12_share : KM yX12_share M_X12_share 2 := ⟨in_tb 1846 (by decide +kernel) rfl, in_tb 9 (by decide +kernel) rfl, by decide +kernel, rfl, rfl⟩
theorem hm_X12_share : M_X12_share.2.2.2.2.2.1 = 0 ∧ M_X12_share.2.2.2.2.2.2.1 = 0 := ⟨rfl, rfl⟩
section
variable {l : Launch} {g : GG}
set_option maxRecDepth 100000 in
set_option maxHeartbeats 4000000 in
theorem t_X12_share_b74 (h : AH) (N : Nat) (K44 : Nat → Int32 → Int32 → Int32 → Int32 → Int32 → Option Int32) (hK44 : ∀ (z0 : Nat) (z1 : Int32) (z2 : Int32) (z3 : Int32) (z4 : Int32) (z5 : Int32), AO l g M_X12_share false h 44 [(0, .ref z0), (1, .int z1), (2, .int z2), (3, .int z3), (4, .int z4), (5, .int z5)] [] h 0 0 (rPi h) (K44 z0 z1 z2 z3 z4 z5)) (x0 : Nat) (x1 : Int32) (x2 : Int32) (x3 : Int32) (x5 : Int32) (s5 : Int32) : AO l g M_X12_share false h 74 [(0, .ref x0), (1, .int x1), (2, .int x2), (3, .int x3), (5, .int x5)] [.int s5] h 0 0 (rPi h) (f_X12_share_b74 h N K44 x0 x1 x2 x3 x5 s5) := by
  unfold f_X12_share_b74
  refine a_istore (lc2 := [(4, .int s5), (0, .ref x0), (1, .int x1), (2, .int x2), (3, .int x3), (5, .int x5)]) dX12_share_74 (by decide) rfl ?_
  refine a_iinc (q := 5) (v := (x5 + 1)) (lc2 := [(5, .int (x5 + 1)), (4, .int s5), (0, .ref x0), (1, .int x1), (2, .int x2), (3, .int x3)]) dX12_share_76 rfl rfl (by decide) rfl ?_
  refine a_goto 44 dX12_share_79 (by decide) ?_
  refine a_pick (lc2 := [(0, .ref x0), (1, .int x1), (2, .int x2), (3, .int x3), (4, .int s5), (5, .int (x5 + 1))]) [2, 3, 4, 5, 1, 0] rfl ?_
  exact hK44 x0 x1 x2 x3 s5 (x5 + 1)
set_option maxRecDepth 100000 in
set_option maxHeartbeats 4000000 in
theorem t_X12_share_b155 (h : AH) (N : Nat) (K91 : Nat → Int32 → Int32 → Int32 → Int32 → Int64 → Int64 → Int32 → Option Int32) (hK91 : ∀ (z0 : Nat) (z1 : Int32) (z2 : Int32) (z3 : Int32) (z4 : Int32) (z5 : Int64) (z6 : Int64) (z7 : Int32), AO l g M_X12_share false h 91 [(0, .ref z0), (1, .int z1), (2, .int z2), (3, .int z3), (4, .int z4), (5, .long z5), (7, .long z6), (9, .int z7)] [] h 0 0 (rPi h) (K91 z0 z1 z2 z3 z4 z5 z6 z7)) (x0 : Nat) (x1 : Int32) (x2 : Int32) (x3 : Int32) (x4 : Int32) (x5 : Int64) (x9 : Int32) (s7 : Int64) (s8 : Int64) : AO l g M_X12_share false h 155 [(0, .ref x0), (1, .int x1), (2, .int x2), (3, .int x3), (4, .int x4), (5, .long x5), (9, .int x9)] [.long s7, .long s8] h 0 0 (rPi h) (f_X12_share_b155 h N K91 x0 x1 x2 x3 x4 x5 x9 s7 s8) := by
  unfold f_X12_share_b155
  refine a_ladd dX12_share_155 ?_
  refine a_lstore (lc2 := [(7, .long (s8 + s7)), (0, .ref x0), (1, .int x1), (2, .int x2), (3, .int x3), (4, .int x4), (5, .long x5), (9, .int x9)]) dX12_share_156 (by decide) rfl ?_
  refine a_iinc (q := 7) (v := (x9 + 1)) (lc2 := [(9, .int (x9 + 1)), (7, .long (s8 + s7)), (0, .ref x0), (1, .int x1), (2, .int x2), (3, .int x3), (4, .int x4), (5, .long x5)]) dX12_share_158 rfl rfl (by decide) rfl ?_
  refine a_goto 91 dX12_share_161 (by decide) ?_
  refine a_pick (lc2 := [(0, .ref x0), (1, .int x1), (2, .int x2), (3, .int x3), (4, .int x4), (5, .long x5), (7, .long (s8 + s7)), (9, .int (x9 + 1))]) [2, 3, 4, 5, 6, 7, 1, 0] rfl ?_
  exact hK91 x0 x1 x2 x3 x4 x5 (s8 + s7) (x9 + 1)
set_option maxRecDepth 100000 in
set_option maxHeartbeats 4000000 in
theorem t_X12_share_b126 (h : AH) (N : Nat) (K91 : Nat → Int32 → Int32 → Int32 → Int32 → Int64 → Int64 → Int32 → Option Int32) (hK91 : ∀ (z0 : Nat) (z1 : Int32) (z2 : Int32) (z3 : Int32) (z4 : Int32) (z5 : Int64) (z6 : Int64) (z7 : Int32), AO l g M_X12_share false h 91 [(0, .ref z0), (1, .int z1), (2, .int z2), (3, .int z3), (4, .int z4), (5, .long z5), (7, .long z6), (9, .int z7)] [] h 0 0 (rPi h) (K91 z0 z1 z2 z3 z4 z5 z6 z7)) (x0 : Nat) (x1 : Int32) (x2 : Int32) (x3 : Int32) (x4 : Int32) (x7 : Int64) (x9 : Int32) (s7 : Int64) (s8 : Int64) : AO l g M_X12_share false h 126 [(0, .ref x0), (1, .int x1), (2, .int x2), (3, .int x3), (4, .int x4), (7, .long x7), (9, .int x9)] [.long s7, .long s8] h 0 0 (rPi h) (f_X12_share_b126 h N K91 x0 x1 x2 x3 x4 x7 x9 s7 s8) := by
  unfold f_X12_share_b126
  refine a_ladd dX12_share_126 ?_
  refine a_lstore (lc2 := [(5, .long (s8 + s7)), (0, .ref x0), (1, .int x1), (2, .int x2), (3, .int x3), (4, .int x4), (7, .long x7), (9, .int x9)]) dX12_share_127 (by decide) rfl ?_
  refine a_lload dX12_share_129 6 rfl ?_
  refine a_aload_n dX12_share_131 rfl 1 rfl ?_
  refine a_getr kc13 32 dX12_share_132 (by decide) rfl w_fieldLink_RainCoverModel_97 (fun v23 => ?_)
  refine a_iload dX12_share_135 7 rfl ?_
  refine a_iald dX12_share_137 (fun v24 => ?_)
  refine a_iload_n dX12_share_138 rfl 4 rfl ?_
  refine a_icmp_ne 154 dX12_share_139 (by decide) (fun c25 => ?_) (fun c25 => ?_)
  · refine a_aload_n dX12_share_142 rfl 1 rfl ?_
    refine a_iload dX12_share_143 7 rfl ?_
    refine a_iload_n dX12_share_145 rfl 3 rfl ?_
    refine a_iload dX12_share_146 5 rfl ?_
    refine a_cV_Pl (r := x0) (ci := 13) (as := [.int x9, .int x2, .int x4]) (st := [.long x7]) dX12_share_148 (c_X12_weight l g h N x0 x9 x2 x4) rfl km_X12_weight (hm_X12_weight) rfl (by decide) rfl (fun _ ee => g_X12_weight ee) w_methodLink_RainCoverModel_451 w_instanceMethod_RainCoverModel_weight__III_J w_selects_RainCoverModel_RainCoverModel_weight__III_J_RainCoverModel_weight__III_J ⟨⟨by decide, by decide⟩, ⟨by decide, by decide⟩⟩ (Nat.le_of_ble_eq_true rfl) (fun v26 => ?_)
    refine a_goto 155 dX12_share_151 (by decide) ?_
    refine a_pick (lc2 := [(0, .ref x0), (1, .int x1), (2, .int x2), (3, .int x3), (4, .int x4), (5, .long (s8 + s7)), (9, .int x9)]) [1, 2, 3, 4, 5, 0, 7] rfl ?_
    exact t_X12_share_b155 h N K91 hK91 x0 x1 x2 x3 x4 (s8 + s7) x9 v26 x7
  · refine a_lconst (v := 0) dX12_share_154 (by decide) ?_
    refine a_pick (lc2 := [(0, .ref x0), (1, .int x1), (2, .int x2), (3, .int x3), (4, .int x4), (5, .long (s8 + s7)), (9, .int x9)]) [1, 2, 3, 4, 5, 0, 7] rfl ?_
    exact t_X12_share_b155 h N K91 hK91 x0 x1 x2 x3 x4 (s8 + s7) x9 0 x7
set_option maxRecDepth 100000 in
set_option maxHeartbeats 4000000 in
theorem t_X12_share_b275 (h : AH) (N : Nat) (K207 : Nat → Int32 → Int32 → Int32 → Int32 → Int64 → Int64 → Int64 → Int32 → Int32 → Option Int32) (hK207 : ∀ (z0 : Nat) (z1 : Int32) (z2 : Int32) (z3 : Int32) (z4 : Int32) (z5 : Int64) (z6 : Int64) (z7 : Int64) (z8 : Int32) (z9 : Int32), AO l g M_X12_share false h 207 [(0, .ref z0), (1, .int z1), (2, .int z2), (3, .int z3), (4, .int z4), (5, .long z5), (7, .long z6), (9, .long z7), (11, .int z8), (12, .int z9)] [] h 0 0 (rPi h) (K207 z0 z1 z2 z3 z4 z5 z6 z7 z8 z9)) (x0 : Nat) (x1 : Int32) (x2 : Int32) (x3 : Int32) (x4 : Int32) (x5 : Int64) (x7 : Int64) (x9 : Int64) (x12 : Int32) (s9 : Int32) (s10 : Int32) : AO l g M_X12_share false h 275 [(0, .ref x0), (1, .int x1), (2, .int x2), (3, .int x3), (4, .int x4), (5, .long x5), (7, .long x7), (9, .long x9), (12, .int x12)] [.int s9, .int s10] h 0 0 (rPi h) (f_X12_share_b275 h N K207 x0 x1 x2 x3 x4 x5 x7 x9 x12 s9 s10) := by
  unfold f_X12_share_b275
  refine a_iadd dX12_share_275 ?_
  refine a_istore (lc2 := [(11, .int (s10 + s9)), (0, .ref x0), (1, .int x1), (2, .int x2), (3, .int x3), (4, .int x4), (5, .long x5), (7, .long x7), (9, .long x9), (12, .int x12)]) dX12_share_276 (by decide) rfl ?_
  refine a_iinc (q := 9) (v := (x12 + 1)) (lc2 := [(12, .int (x12 + 1)), (11, .int (s10 + s9)), (0, .ref x0), (1, .int x1), (2, .int x2), (3, .int x3), (4, .int x4), (5, .long x5), (7, .long x7), (9, .long x9)]) dX12_share_278 rfl rfl (by decide) rfl ?_
  refine a_goto 207 dX12_share_281 (by decide) ?_
  refine a_pick (lc2 := [(0, .ref x0), (1, .int x1), (2, .int x2), (3, .int x3), (4, .int x4), (5, .long x5), (7, .long x7), (9, .long x9), (11, .int (s10 + s9)), (12, .int (x12 + 1))]) [2, 3, 4, 5, 6, 7, 8, 9, 1, 0] rfl ?_
  exact hK207 x0 x1 x2 x3 x4 x5 x7 x9 (s10 + s9) (x12 + 1)
set_option maxRecDepth 100000 in
set_option maxHeartbeats 4000000 in
theorem t_X12_share_b274 (h : AH) (N : Nat) (K207 : Nat → Int32 → Int32 → Int32 → Int32 → Int64 → Int64 → Int64 → Int32 → Int32 → Option Int32) (hK207 : ∀ (z0 : Nat) (z1 : Int32) (z2 : Int32) (z3 : Int32) (z4 : Int32) (z5 : Int64) (z6 : Int64) (z7 : Int64) (z8 : Int32) (z9 : Int32), AO l g M_X12_share false h 207 [(0, .ref z0), (1, .int z1), (2, .int z2), (3, .int z3), (4, .int z4), (5, .long z5), (7, .long z6), (9, .long z7), (11, .int z8), (12, .int z9)] [] h 0 0 (rPi h) (K207 z0 z1 z2 z3 z4 z5 z6 z7 z8 z9)) (x0 : Nat) (x1 : Int32) (x2 : Int32) (x3 : Int32) (x4 : Int32) (x5 : Int64) (x7 : Int64) (x9 : Int64) (x12 : Int32) (s9 : Int32) : AO l g M_X12_share false h 274 [(0, .ref x0), (1, .int x1), (2, .int x2), (3, .int x3), (4, .int x4), (5, .long x5), (7, .long x7), (9, .long x9), (12, .int x12)] [.int s9] h 0 0 (rPi h) (f_X12_share_b274 h N K207 x0 x1 x2 x3 x4 x5 x7 x9 x12 s9) := by
  unfold f_X12_share_b274
  refine a_iconst (v := 0) dX12_share_274 (by decide) ?_
  exact t_X12_share_b275 h N K207 hK207 x0 x1 x2 x3 x4 x5 x7 x9 x12 0 s9
set_option maxRecDepth 100000 in
set_option maxHeartbeats 4000000 in
theorem t_X12_share_b248 (h : AH) (N : Nat) (K207 : Nat → Int32 → Int32 → Int32 → Int32 → Int64 → Int64 → Int64 → Int32 → Int32 → Option Int32) (hK207 : ∀ (z0 : Nat) (z1 : Int32) (z2 : Int32) (z3 : Int32) (z4 : Int32) (z5 : Int64) (z6 : Int64) (z7 : Int64) (z8 : Int32) (z9 : Int32), AO l g M_X12_share false h 207 [(0, .ref z0), (1, .int z1), (2, .int z2), (3, .int z3), (4, .int z4), (5, .long z5), (7, .long z6), (9, .long z7), (11, .int z8), (12, .int z9)] [] h 0 0 (rPi h) (K207 z0 z1 z2 z3 z4 z5 z6 z7 z8 z9)) (x0 : Nat) (x1 : Int32) (x2 : Int32) (x3 : Int32) (x4 : Int32) (x5 : Int64) (x7 : Int64) (x11 : Int32) (x12 : Int32) (s9 : Int64) (s10 : Int64) : AO l g M_X12_share false h 248 [(0, .ref x0), (1, .int x1), (2, .int x2), (3, .int x3), (4, .int x4), (5, .long x5), (7, .long x7), (11, .int x11), (12, .int x12)] [.long s9, .long s10] h 0 0 (rPi h) (f_X12_share_b248 h N K207 x0 x1 x2 x3 x4 x5 x7 x11 x12 s9 s10) := by
  unfold f_X12_share_b248
  refine a_lsub dX12_share_248 ?_
  refine a_lstore (lc2 := [(9, .long (s10 - s9)), (0, .ref x0), (1, .int x1), (2, .int x2), (3, .int x3), (4, .int x4), (5, .long x5), (7, .long x7), (11, .int x11), (12, .int x12)]) dX12_share_249 (by decide) rfl ?_
  refine a_iload dX12_share_251 8 rfl ?_
  refine a_aload_n dX12_share_253 rfl 1 rfl ?_
  refine a_getr kc13 32 dX12_share_254 (by decide) rfl w_fieldLink_RainCoverModel_97 (fun v37 => ?_)
  refine a_iload dX12_share_257 9 rfl ?_
  refine a_iald dX12_share_259 (fun v38 => ?_)
  refine a_iload_n dX12_share_260 rfl 4 rfl ?_
  refine a_icmp_ne 274 dX12_share_261 (by decide) (fun c39 => ?_) (fun c39 => ?_)
  · refine a_iload dX12_share_264 9 rfl ?_
    refine a_iload_n dX12_share_266 rfl 2 rfl ?_
    refine a_icmp_ge 274 dX12_share_267 (by decide) (fun c40 => ?_) (fun c40 => ?_)
    · refine a_pick (lc2 := [(0, .ref x0), (1, .int x1), (2, .int x2), (3, .int x3), (4, .int x4), (5, .long x5), (7, .long x7), (9, .long (s10 - s9)), (12, .int x12)]) [1, 2, 3, 4, 5, 6, 7, 0, 9] rfl ?_
      exact t_X12_share_b274 h N K207 hK207 x0 x1 x2 x3 x4 x5 x7 (s10 - s9) x12 x11
    · refine a_iconst (v := 1) dX12_share_270 (by decide) ?_
      refine a_goto 275 dX12_share_271 (by decide) ?_
      refine a_pick (lc2 := [(0, .ref x0), (1, .int x1), (2, .int x2), (3, .int x3), (4, .int x4), (5, .long x5), (7, .long x7), (9, .long (s10 - s9)), (12, .int x12)]) [1, 2, 3, 4, 5, 6, 7, 0, 9] rfl ?_
      exact t_X12_share_b275 h N K207 hK207 x0 x1 x2 x3 x4 x5 x7 (s10 - s9) x12 1 x11
  · refine a_pick (lc2 := [(0, .ref x0), (1, .int x1), (2, .int x2), (3, .int x3), (4, .int x4), (5, .long x5), (7, .long x7), (9, .long (s10 - s9)), (12, .int x12)]) [1, 2, 3, 4, 5, 6, 7, 0, 9] rfl ?_
    exact t_X12_share_b274 h N K207 hK207 x0 x1 x2 x3 x4 x5 x7 (s10 - s9) x12 x11
set_option maxRecDepth 100000 in
set_option maxHeartbeats 4000000 in
theorem t_X12_share_b207_body (h : AH) (N : Nat) (K207 : Nat → Int32 → Int32 → Int32 → Int32 → Int64 → Int64 → Int64 → Int32 → Int32 → Option Int32) (hK207 : ∀ (z0 : Nat) (z1 : Int32) (z2 : Int32) (z3 : Int32) (z4 : Int32) (z5 : Int64) (z6 : Int64) (z7 : Int64) (z8 : Int32) (z9 : Int32), AO l g M_X12_share false h 207 [(0, .ref z0), (1, .int z1), (2, .int z2), (3, .int z3), (4, .int z4), (5, .long z5), (7, .long z6), (9, .long z7), (11, .int z8), (12, .int z9)] [] h 0 0 (rPi h) (K207 z0 z1 z2 z3 z4 z5 z6 z7 z8 z9)) (x0 : Nat) (x1 : Int32) (x2 : Int32) (x3 : Int32) (x4 : Int32) (x5 : Int64) (x7 : Int64) (x9 : Int64) (x11 : Int32) (x12 : Int32) : AO l g M_X12_share false h 207 [(0, .ref x0), (1, .int x1), (2, .int x2), (3, .int x3), (4, .int x4), (5, .long x5), (7, .long x7), (9, .long x9), (11, .int x11), (12, .int x12)] [] h 0 0 (rPi h) (f_X12_share_b207_body h N K207 x0 x1 x2 x3 x4 x5 x7 x9 x11 x12) := by
  unfold f_X12_share_b207_body
  refine a_iload dX12_share_207 9 rfl ?_
  refine a_aload_n dX12_share_209 rfl 0 rfl ?_
  refine a_geti kc13 26 dX12_share_210 (by decide) rfl w_fieldLink_RainCoverModel_214 (fun v27 => ?_)
  refine a_icmp_ge 284 dX12_share_213 (by decide) (fun c28 => ?_) (fun c28 => ?_)
  · refine a_lload dX12_share_284 5 rfl ?_
    refine a_aload_n dX12_share_286 rfl 0 rfl ?_
    refine a_iload_n dX12_share_287 rfl 1 rfl ?_
    refine a_iload_n dX12_share_288 rfl 2 rfl ?_
    refine a_iload dX12_share_289 4 rfl ?_
    refine a_cV_Pl (r := x0) (ci := 13) (as := [.int x1, .int x2, .int x4]) (st := [.long x5]) dX12_share_291 (c_X12_weight l g h N x0 x1 x2 x4) rfl km_X12_weight (hm_X12_weight) rfl (by decide) rfl (fun _ ee => g_X12_weight ee) w_methodLink_RainCoverModel_451 w_instanceMethod_RainCoverModel_weight__III_J w_selects_RainCoverModel_RainCoverModel_weight__III_J_RainCoverModel_weight__III_J ⟨⟨by decide, by decide⟩, ⟨by decide, by decide⟩⟩ (Nat.le_of_ble_eq_true rfl) (fun v29 => ?_)
    refine a_lmul dX12_share_294 ?_
    refine a_lload dX12_share_295 6 rfl ?_
    refine a_ldiv dX12_share_297 (fun c30 => ?_)
    refine a_iload dX12_share_298 8 rfl ?_
    refine a_i2l dX12_share_300 ?_
    refine a_lload dX12_share_301 7 rfl ?_
    refine a_lcmp dX12_share_303 ?_
    refine a_if_ge 311 dX12_share_304 (by decide) (fun c31 => ?_) (fun c31 => ?_)
    · refine a_lconst (v := 0) dX12_share_311 (by decide) ?_
      refine a_ladd dX12_share_312 ?_
      refine a_l2i dX12_share_313 ?_
      exact a_iret dX12_share_314 rfl rfl (by decide) (by decide)
    · refine a_lconst (v := 1) dX12_share_307 (by decide) ?_
      refine a_goto 312 dX12_share_308 (by decide) ?_
      refine a_ladd dX12_share_312 ?_
      refine a_l2i dX12_share_313 ?_
      exact a_iret dX12_share_314 rfl rfl (by decide) (by decide)
  · refine a_lload dX12_share_216 7 rfl ?_
    refine a_aload_n dX12_share_218 rfl 0 rfl ?_
    refine a_getr kc13 32 dX12_share_219 (by decide) rfl w_fieldLink_RainCoverModel_97 (fun v32 => ?_)
    refine a_iload dX12_share_222 9 rfl ?_
    refine a_iald dX12_share_224 (fun v33 => ?_)
    refine a_iload_n dX12_share_225 rfl 3 rfl ?_
    refine a_icmp_ne 247 dX12_share_226 (by decide) (fun c34 => ?_) (fun c34 => ?_)
    · refine a_lload dX12_share_229 5 rfl ?_
      refine a_aload_n dX12_share_231 rfl 0 rfl ?_
      refine a_iload dX12_share_232 9 rfl ?_
      refine a_iload_n dX12_share_234 rfl 2 rfl ?_
      refine a_iload dX12_share_235 4 rfl ?_
      refine a_cV_Pl (r := x0) (ci := 13) (as := [.int x12, .int x2, .int x4]) (st := [.long x5, .long x9]) dX12_share_237 (c_X12_weight l g h N x0 x12 x2 x4) rfl km_X12_weight (hm_X12_weight) rfl (by decide) rfl (fun _ ee => g_X12_weight ee) w_methodLink_RainCoverModel_451 w_instanceMethod_RainCoverModel_weight__III_J w_selects_RainCoverModel_RainCoverModel_weight__III_J_RainCoverModel_weight__III_J ⟨⟨by decide, by decide⟩, ⟨by decide, by decide⟩⟩ (Nat.le_of_ble_eq_true rfl) (fun v35 => ?_)
      refine a_lmul dX12_share_240 ?_
      refine a_lload dX12_share_241 6 rfl ?_
      refine a_ldiv dX12_share_243 (fun c36 => ?_)
      refine a_goto 248 dX12_share_244 (by decide) ?_
      refine a_pick (lc2 := [(0, .ref x0), (1, .int x1), (2, .int x2), (3, .int x3), (4, .int x4), (5, .long x5), (7, .long x7), (11, .int x11), (12, .int x12)]) [0, 1, 2, 3, 4, 5, 6, 8, 9] rfl ?_
      exact t_X12_share_b248 h N K207 hK207 x0 x1 x2 x3 x4 x5 x7 x11 x12 ((x5 * v35) / x7) x9
    · refine a_lconst (v := 0) dX12_share_247 (by decide) ?_
      refine a_pick (lc2 := [(0, .ref x0), (1, .int x1), (2, .int x2), (3, .int x3), (4, .int x4), (5, .long x5), (7, .long x7), (11, .int x11), (12, .int x12)]) [0, 1, 2, 3, 4, 5, 6, 8, 9] rfl ?_
      exact t_X12_share_b248 h N K207 hK207 x0 x1 x2 x3 x4 x5 x7 x11 x12 0 x9
set_option maxRecDepth 100000 in
set_option maxHeartbeats 4000000 in
theorem t_X12_share_b207 (h : AH) (N : Nat) : ∀ (n : Nat) (x0 : Nat) (x1 : Int32) (x2 : Int32) (x3 : Int32) (x4 : Int32) (x5 : Int64) (x7 : Int64) (x9 : Int64) (x11 : Int32) (x12 : Int32) , AO l g M_X12_share false h 207 [(0, .ref x0), (1, .int x1), (2, .int x2), (3, .int x3), (4, .int x4), (5, .long x5), (7, .long x7), (9, .long x9), (11, .int x11), (12, .int x12)] [] h 0 0 (rPi h) (f_X12_share_b207 h N  n x0 x1 x2 x3 x4 x5 x7 x9 x11 x12) := by
  intro n
  induction n with
  | zero => intro x0 x1 x2 x3 x4 x5 x7 x9 x11 x12; exact a_eq rfl a_none
  | succ n ih => intro x0 x1 x2 x3 x4 x5 x7 x9 x11 x12; exact a_eq rfl (t_X12_share_b207_body h N  (f_X12_share_b207 h N  n) ih x0 x1 x2 x3 x4 x5 x7 x9 x11 x12)
set_option maxRecDepth 100000 in
set_option maxHeartbeats 4000000 in
theorem t_X12_share_b197 (h : AH) (N : Nat) (x0 : Nat) (x1 : Int32) (x2 : Int32) (x3 : Int32) (x4 : Int32) (x5 : Int64) (x7 : Int64) : AO l g M_X12_share false h 197 [(0, .ref x0), (1, .int x1), (2, .int x2), (3, .int x3), (4, .int x4), (5, .long x5), (7, .long x7)] [] h 0 0 (rPi h) (f_X12_share_b197 h N  x0 x1 x2 x3 x4 x5 x7) := by
  unfold f_X12_share_b197
  refine a_lload dX12_share_197 5 rfl ?_
  refine a_lstore (lc2 := [(9, .long x5), (0, .ref x0), (1, .int x1), (2, .int x2), (3, .int x3), (4, .int x4), (5, .long x5), (7, .long x7)]) dX12_share_199 (by decide) rfl ?_
  refine a_iconst (v := 0) dX12_share_201 (by decide) ?_
  refine a_istore (lc2 := [(11, .int 0), (9, .long x5), (0, .ref x0), (1, .int x1), (2, .int x2), (3, .int x3), (4, .int x4), (5, .long x5), (7, .long x7)]) dX12_share_202 (by decide) rfl ?_
  refine a_iconst (v := 0) dX12_share_204 (by decide) ?_
  refine a_istore (lc2 := [(12, .int 0), (11, .int 0), (9, .long x5), (0, .ref x0), (1, .int x1), (2, .int x2), (3, .int x3), (4, .int x4), (5, .long x5), (7, .long x7)]) dX12_share_205 (by decide) rfl ?_
  refine a_pick (lc2 := [(0, .ref x0), (1, .int x1), (2, .int x2), (3, .int x3), (4, .int x4), (5, .long x5), (7, .long x7), (9, .long x5), (11, .int 0), (12, .int 0)]) [3, 4, 5, 6, 7, 8, 9, 2, 1, 0] rfl ?_
  exact t_X12_share_b207 h N N x0 x1 x2 x3 x4 x5 x7 x5 0 0
set_option maxRecDepth 100000 in
set_option maxHeartbeats 4000000 in
theorem t_X12_share_b91_body (h : AH) (N : Nat) (K91 : Nat → Int32 → Int32 → Int32 → Int32 → Int64 → Int64 → Int32 → Option Int32) (hK91 : ∀ (z0 : Nat) (z1 : Int32) (z2 : Int32) (z3 : Int32) (z4 : Int32) (z5 : Int64) (z6 : Int64) (z7 : Int32), AO l g M_X12_share false h 91 [(0, .ref z0), (1, .int z1), (2, .int z2), (3, .int z3), (4, .int z4), (5, .long z5), (7, .long z6), (9, .int z7)] [] h 0 0 (rPi h) (K91 z0 z1 z2 z3 z4 z5 z6 z7)) (x0 : Nat) (x1 : Int32) (x2 : Int32) (x3 : Int32) (x4 : Int32) (x5 : Int64) (x7 : Int64) (x9 : Int32) : AO l g M_X12_share false h 91 [(0, .ref x0), (1, .int x1), (2, .int x2), (3, .int x3), (4, .int x4), (5, .long x5), (7, .long x7), (9, .int x9)] [] h 0 0 (rPi h) (f_X12_share_b91_body h N K91 x0 x1 x2 x3 x4 x5 x7 x9) := by
  unfold f_X12_share_b91_body
  refine a_iload dX12_share_91 7 rfl ?_
  refine a_aload_n dX12_share_93 rfl 0 rfl ?_
  refine a_geti kc13 26 dX12_share_94 (by decide) rfl w_fieldLink_RainCoverModel_214 (fun v13 => ?_)
  refine a_icmp_ge 164 dX12_share_97 (by decide) (fun c14 => ?_) (fun c14 => ?_)
  · refine a_lload dX12_share_164 6 rfl ?_
    refine a_lconst (v := 0) dX12_share_166 (by decide) ?_
    refine a_lcmp dX12_share_167 ?_
    refine a_if_ne 197 dX12_share_168 (by decide) (fun c15 => ?_) (fun c15 => ?_)
    · refine a_iconst (v := 0) dX12_share_171 (by decide) ?_
      refine a_istore (lc2 := [(4, .int 0), (0, .ref x0), (1, .int x1), (2, .int x2), (3, .int x3), (5, .long x5), (7, .long x7), (9, .int x9)]) dX12_share_172 (by decide) rfl ?_
      refine a_aload_n dX12_share_174 rfl 1 rfl ?_
      refine a_iload_n dX12_share_175 rfl 4 rfl ?_
      refine a_iconst (v := 0) dX12_share_176 (by decide) ?_
      refine a_cV_Pi (r := x0) (ci := 13) (as := [.int x3, .int 0]) (st := []) dX12_share_177 (c_X12_votes l g h N x0 x3 0) rfl km_X12_votes (hm_X12_votes) rfl (by decide) rfl (fun _ ee => g_X12_votes ee) w_methodLink_RainCoverModel_448 w_instanceMethod_RainCoverModel_votes__II_I w_selects_RainCoverModel_RainCoverModel_votes__II_I_RainCoverModel_votes__II_I ⟨⟨by decide, by decide⟩, ⟨by decide, by decide⟩⟩ (Nat.le_of_ble_eq_true rfl) (fun v16 => ?_)
      refine a_aload_n dX12_share_180 rfl 1 rfl ?_
      refine a_iload_n dX12_share_181 rfl 4 rfl ?_
      refine a_iconst (v := 1) dX12_share_182 (by decide) ?_
      refine a_cV_Pi (r := x0) (ci := 13) (as := [.int x3, .int 1]) (st := [.int v16]) dX12_share_183 (c_X12_votes l g h N x0 x3 1) rfl km_X12_votes (hm_X12_votes) rfl (by decide) rfl (fun _ ee => g_X12_votes ee) w_methodLink_RainCoverModel_448 w_instanceMethod_RainCoverModel_votes__II_I w_selects_RainCoverModel_RainCoverModel_votes__II_I_RainCoverModel_votes__II_I ⟨⟨by decide, by decide⟩, ⟨by decide, by decide⟩⟩ (Nat.le_of_ble_eq_true rfl) (fun v17 => ?_)
      refine a_iadd dX12_share_186 ?_
      refine a_aload_n dX12_share_187 rfl 1 rfl ?_
      refine a_iload_n dX12_share_188 rfl 4 rfl ?_
      refine a_iconst (v := 2) dX12_share_189 (by decide) ?_
      refine a_cV_Pi (r := x0) (ci := 13) (as := [.int x3, .int 2]) (st := [.int (v16 + v17)]) dX12_share_190 (c_X12_votes l g h N x0 x3 2) rfl km_X12_votes (hm_X12_votes) rfl (by decide) rfl (fun _ ee => g_X12_votes ee) w_methodLink_RainCoverModel_448 w_instanceMethod_RainCoverModel_votes__II_I w_selects_RainCoverModel_RainCoverModel_votes__II_I_RainCoverModel_votes__II_I ⟨⟨by decide, by decide⟩, ⟨by decide, by decide⟩⟩ (Nat.le_of_ble_eq_true rfl) (fun v18 => ?_)
      refine a_iadd dX12_share_193 ?_
      refine a_i2l dX12_share_194 ?_
      refine a_lstore (lc2 := [(7, .long (((v16 + v17) + v18) : Int32).toInt64), (4, .int 0), (0, .ref x0), (1, .int x1), (2, .int x2), (3, .int x3), (5, .long x5), (9, .int x9)]) dX12_share_195 (by decide) rfl ?_
      refine a_pick (lc2 := [(0, .ref x0), (1, .int x1), (2, .int x2), (3, .int x3), (4, .int 0), (5, .long x5), (7, .long (((v16 + v17) + v18) : Int32).toInt64)]) [2, 3, 4, 5, 1, 6, 0] rfl ?_
      exact t_X12_share_b197 h N x0 x1 x2 x3 0 x5 (((v16 + v17) + v18) : Int32).toInt64
    · refine a_pick (lc2 := [(0, .ref x0), (1, .int x1), (2, .int x2), (3, .int x3), (4, .int x4), (5, .long x5), (7, .long x7)]) [0, 1, 2, 3, 4, 5, 6] rfl ?_
      exact t_X12_share_b197 h N x0 x1 x2 x3 x4 x5 x7
  · refine a_lload dX12_share_100 5 rfl ?_
    refine a_aload_n dX12_share_102 rfl 0 rfl ?_
    refine a_getr kc13 32 dX12_share_103 (by decide) rfl w_fieldLink_RainCoverModel_97 (fun v19 => ?_)
    refine a_iload dX12_share_106 7 rfl ?_
    refine a_iald dX12_share_108 (fun v20 => ?_)
    refine a_iload_n dX12_share_109 rfl 3 rfl ?_
    refine a_icmp_ne 125 dX12_share_110 (by decide) (fun c21 => ?_) (fun c21 => ?_)
    · refine a_aload_n dX12_share_113 rfl 0 rfl ?_
      refine a_iconst (v := 0) dX12_share_114 (by decide) ?_
      refine a_iload dX12_share_115 7 rfl ?_
      refine a_iload_n dX12_share_117 rfl 2 rfl ?_
      refine a_cV_Pi (r := x0) (ci := 13) (as := [.int 0, .int x9, .int x2]) (st := [.long x5]) dX12_share_118 (c_X12_dueOf l g h N x0 0 x9 x2) rfl km_X12_dueOf (hm_X12_dueOf) rfl (by decide) rfl (fun _ ee => g_X12_dueOf ee) w_methodLink_RainCoverModel_361 w_instanceMethod_RainCoverModel_dueOf__III_I w_selects_RainCoverModel_RainCoverModel_dueOf__III_I_RainCoverModel_dueOf__III_I ⟨⟨by decide, by decide⟩, ⟨by decide, by decide⟩⟩ (Nat.le_of_ble_eq_true rfl) (fun v22 => ?_)
      refine a_i2l dX12_share_121 ?_
      refine a_goto 126 dX12_share_122 (by decide) ?_
      refine a_pick (lc2 := [(0, .ref x0), (1, .int x1), (2, .int x2), (3, .int x3), (4, .int x4), (7, .long x7), (9, .int x9)]) [0, 1, 2, 3, 4, 6, 7] rfl ?_
      exact t_X12_share_b126 h N K91 hK91 x0 x1 x2 x3 x4 x7 x9 (v22 : Int32).toInt64 x5
    · refine a_lconst (v := 0) dX12_share_125 (by decide) ?_
      refine a_pick (lc2 := [(0, .ref x0), (1, .int x1), (2, .int x2), (3, .int x3), (4, .int x4), (7, .long x7), (9, .int x9)]) [0, 1, 2, 3, 4, 6, 7] rfl ?_
      exact t_X12_share_b126 h N K91 hK91 x0 x1 x2 x3 x4 x7 x9 0 x5
set_option maxRecDepth 100000 in
set_option maxHeartbeats 4000000 in
theorem t_X12_share_b91 (h : AH) (N : Nat) : ∀ (n : Nat) (x0 : Nat) (x1 : Int32) (x2 : Int32) (x3 : Int32) (x4 : Int32) (x5 : Int64) (x7 : Int64) (x9 : Int32) , AO l g M_X12_share false h 91 [(0, .ref x0), (1, .int x1), (2, .int x2), (3, .int x3), (4, .int x4), (5, .long x5), (7, .long x7), (9, .int x9)] [] h 0 0 (rPi h) (f_X12_share_b91 h N  n x0 x1 x2 x3 x4 x5 x7 x9) := by
  intro n
  induction n with
  | zero => intro x0 x1 x2 x3 x4 x5 x7 x9; exact a_eq rfl a_none
  | succ n ih => intro x0 x1 x2 x3 x4 x5 x7 x9; exact a_eq rfl (t_X12_share_b91_body h N  (f_X12_share_b91 h N  n) ih x0 x1 x2 x3 x4 x5 x7 x9)
set_option maxRecDepth 100000 in
set_option maxHeartbeats 4000000 in
theorem t_X12_share_b44_body (h : AH) (N : Nat) (K44 : Nat → Int32 → Int32 → Int32 → Int32 → Int32 → Option Int32) (hK44 : ∀ (z0 : Nat) (z1 : Int32) (z2 : Int32) (z3 : Int32) (z4 : Int32) (z5 : Int32), AO l g M_X12_share false h 44 [(0, .ref z0), (1, .int z1), (2, .int z2), (3, .int z3), (4, .int z4), (5, .int z5)] [] h 0 0 (rPi h) (K44 z0 z1 z2 z3 z4 z5)) (x0 : Nat) (x1 : Int32) (x2 : Int32) (x3 : Int32) (x4 : Int32) (x5 : Int32) : AO l g M_X12_share false h 44 [(0, .ref x0), (1, .int x1), (2, .int x2), (3, .int x3), (4, .int x4), (5, .int x5)] [] h 0 0 (rPi h) (f_X12_share_b44_body h N K44 x0 x1 x2 x3 x4 x5) := by
  unfold f_X12_share_b44_body
  refine a_iload dX12_share_44 5 rfl ?_
  refine a_iconst (v := 3) dX12_share_46 (by decide) ?_
  refine a_icmp_ge 82 dX12_share_47 (by decide) (fun c9 => ?_) (fun c9 => ?_)
  · refine a_lconst (v := 0) dX12_share_82 (by decide) ?_
    refine a_lstore (lc2 := [(5, .long 0), (0, .ref x0), (1, .int x1), (2, .int x2), (3, .int x3), (4, .int x4)]) dX12_share_83 (by decide) rfl ?_
    refine a_lconst (v := 0) dX12_share_85 (by decide) ?_
    refine a_lstore (lc2 := [(7, .long 0), (5, .long 0), (0, .ref x0), (1, .int x1), (2, .int x2), (3, .int x3), (4, .int x4)]) dX12_share_86 (by decide) rfl ?_
    refine a_iconst (v := 0) dX12_share_88 (by decide) ?_
    refine a_istore (lc2 := [(9, .int 0), (7, .long 0), (5, .long 0), (0, .ref x0), (1, .int x1), (2, .int x2), (3, .int x3), (4, .int x4)]) dX12_share_89 (by decide) rfl ?_
    refine a_pick (lc2 := [(0, .ref x0), (1, .int x1), (2, .int x2), (3, .int x3), (4, .int x4), (5, .long 0), (7, .long 0), (9, .int 0)]) [3, 4, 5, 6, 7, 2, 1, 0] rfl ?_
    exact t_X12_share_b91 h N N x0 x1 x2 x3 x4 0 0 0
  · refine a_aload_n dX12_share_50 rfl 0 rfl ?_
    refine a_iload_n dX12_share_51 rfl 3 rfl ?_
    refine a_iload dX12_share_52 5 rfl ?_
    refine a_cV_Pi (r := x0) (ci := 13) (as := [.int x3, .int x5]) (st := []) dX12_share_54 (c_X12_votes l g h N x0 x3 x5) rfl km_X12_votes (hm_X12_votes) rfl (by decide) rfl (fun _ ee => g_X12_votes ee) w_methodLink_RainCoverModel_448 w_instanceMethod_RainCoverModel_votes__II_I w_selects_RainCoverModel_RainCoverModel_votes__II_I_RainCoverModel_votes__II_I ⟨⟨by decide, by decide⟩, ⟨by decide, by decide⟩⟩ (Nat.le_of_ble_eq_true rfl) (fun v10 => ?_)
    refine a_aload_n dX12_share_57 rfl 0 rfl ?_
    refine a_iload_n dX12_share_58 rfl 3 rfl ?_
    refine a_iload dX12_share_59 4 rfl ?_
    refine a_cV_Pi (r := x0) (ci := 13) (as := [.int x3, .int x4]) (st := [.int v10]) dX12_share_61 (c_X12_votes l g h N x0 x3 x4) rfl km_X12_votes (hm_X12_votes) rfl (by decide) rfl (fun _ ee => g_X12_votes ee) w_methodLink_RainCoverModel_448 w_instanceMethod_RainCoverModel_votes__II_I w_selects_RainCoverModel_RainCoverModel_votes__II_I_RainCoverModel_votes__II_I ⟨⟨by decide, by decide⟩, ⟨by decide, by decide⟩⟩ (Nat.le_of_ble_eq_true rfl) (fun v11 => ?_)
    refine a_icmp_le 72 dX12_share_64 (by decide) (fun c12 => ?_) (fun c12 => ?_)
    · refine a_iload dX12_share_72 4 rfl ?_
      refine a_pick (lc2 := [(0, .ref x0), (1, .int x1), (2, .int x2), (3, .int x3), (5, .int x5)]) [0, 1, 2, 3, 5] rfl ?_
      exact t_X12_share_b74 h N K44 hK44 x0 x1 x2 x3 x5 x4
    · refine a_iload dX12_share_67 5 rfl ?_
      refine a_goto 74 dX12_share_69 (by decide) ?_
      refine a_pick (lc2 := [(0, .ref x0), (1, .int x1), (2, .int x2), (3, .int x3), (5, .int x5)]) [0, 1, 2, 3, 5] rfl ?_
      exact t_X12_share_b74 h N K44 hK44 x0 x1 x2 x3 x5 x5
set_option maxRecDepth 100000 in
set_option maxHeartbeats 4000000 in
theorem t_X12_share_b44 (h : AH) (N : Nat) : ∀ (n : Nat) (x0 : Nat) (x1 : Int32) (x2 : Int32) (x3 : Int32) (x4 : Int32) (x5 : Int32) , AO l g M_X12_share false h 44 [(0, .ref x0), (1, .int x1), (2, .int x2), (3, .int x3), (4, .int x4), (5, .int x5)] [] h 0 0 (rPi h) (f_X12_share_b44 h N  n x0 x1 x2 x3 x4 x5) := by
  intro n
  induction n with
  | zero => intro x0 x1 x2 x3 x4 x5; exact a_eq rfl a_none
  | succ n ih => intro x0 x1 x2 x3 x4 x5; exact a_eq rfl (t_X12_share_b44_body h N  (f_X12_share_b44 h N  n) ih x0 x1 x2 x3 x4 x5)
end
set_option maxRecDepth 100000 in
set_option maxHeartbeats 4000000 in
theorem c_X12_share (l : Launch) (g : GG) (h : AH) (N : Nat) (p0 : Nat) (p1 : Int32) (p2 : Int32) : CN l g yX12_share M_X12_share false [.ref p0, .int p1, .int p2] h ((rPi h)) (f_X12_share h N p0 p1 p2) := by
  refine CN.of (by decide) rfl (fun hh => by first | rfl | cases hh) (Nat.le_of_ble_eq_true rfl) ?_
  unfold f_X12_share
  refine a_gd (fun hkd => ?_)
  refine a_aload_n dX12_share_0 rfl 0 rfl ?_
  refine a_iload_n dX12_share_1 rfl 1 rfl ?_
  refine a_cV_Pi (r := p0) (ci := 13) (as := [.int p1]) (st := []) dX12_share_2 (c_X12_isFarm l g h p0 p1) rfl km_X12_isFarm (hm_X12_isFarm) rfl (by decide) rfl (fun _ ee => g_X12_isFarm ee) w_methodLink_RainCoverModel_346 w_instanceMethod_RainCoverModel_isFarm__I_Z w_selects_RainCoverModel_RainCoverModel_isFarm__I_Z_RainCoverModel_isFarm__I_Z ⟨⟨by decide, by decide⟩, ⟨by decide, by decide⟩⟩ (Nat.le_of_ble_eq_true rfl) (fun v1 => ?_)
  refine a_if_eq 15 dX12_share_5 (by decide) (fun c2 => ?_) (fun c2 => ?_)
  · refine a_bipush (v := (-5)) dX12_share_15 (by decide) ?_
    exact a_iret dX12_share_17 rfl rfl (by decide) (by decide)
  · refine a_iload_n dX12_share_8 rfl 2 rfl ?_
    refine a_cS_Pi (as := [.int p2]) (st := []) dX12_share_9 (c_X12_isSeason l g h p2) rfl km_X12_isSeason (hm_X12_isSeason) w_methodLink_RainCoverModel_221 w_static_RainCoverModel_isSeason__I_Z ⟨⟨by decide, by decide⟩, ⟨by decide, by decide⟩⟩ (Nat.le_of_ble_eq_true rfl) (fun v3 => ?_)
    refine a_if_ne 18 dX12_share_12 (by decide) (fun c4 => ?_) (fun c4 => ?_)
    · refine a_bipush (v := (-5)) dX12_share_15 (by decide) ?_
      exact a_iret dX12_share_17 rfl rfl (by decide) (by decide)
    · refine a_aload_n dX12_share_18 rfl 0 rfl ?_
      refine a_getr kc13 32 dX12_share_19 (by decide) rfl w_fieldLink_RainCoverModel_97 (fun v5 => ?_)
      refine a_iload_n dX12_share_22 rfl 1 rfl ?_
      refine a_iald dX12_share_23 (fun v6 => ?_)
      refine a_istore_n (lc2 := [(3, .int v6), (0, .ref p0), (1, .int p1), (2, .int p2)]) dX12_share_24 rfl (by decide) rfl ?_
      refine a_iload_n dX12_share_25 rfl 0 rfl ?_
      refine a_iconst (v := (-1)) dX12_share_26 (by decide) ?_
      refine a_icmp_ne 38 dX12_share_27 (by decide) (fun c7 => ?_) (fun c7 => ?_)
      · refine a_aload_n dX12_share_30 rfl 1 rfl ?_
        refine a_iconst (v := 0) dX12_share_31 (by decide) ?_
        refine a_iload_n dX12_share_32 rfl 2 rfl ?_
        refine a_iload_n dX12_share_33 rfl 3 rfl ?_
        refine a_cV_Pi (r := p0) (ci := 13) (as := [.int 0, .int p1, .int p2]) (st := []) dX12_share_34 (c_X12_dueOf l g h N p0 0 p1 p2) rfl km_X12_dueOf (hm_X12_dueOf) rfl (by decide) rfl (fun _ ee => g_X12_dueOf ee) w_methodLink_RainCoverModel_361 w_instanceMethod_RainCoverModel_dueOf__III_I w_selects_RainCoverModel_RainCoverModel_dueOf__III_I_RainCoverModel_dueOf__III_I ⟨⟨by decide, by decide⟩, ⟨by decide, by decide⟩⟩ (Nat.le_of_ble_eq_true rfl) (fun v8 => ?_)
        exact a_iret dX12_share_37 rfl rfl (by decide) (by decide)
      · refine a_iconst (v := 0) dX12_share_38 (by decide) ?_
        refine a_istore (lc2 := [(4, .int 0), (3, .int v6), (0, .ref p0), (1, .int p1), (2, .int p2)]) dX12_share_39 (by decide) rfl ?_
        refine a_iconst (v := 1) dX12_share_41 (by decide) ?_
        refine a_istore (lc2 := [(5, .int 1), (4, .int 0), (3, .int v6), (0, .ref p0), (1, .int p1), (2, .int p2)]) dX12_share_42 (by decide) rfl ?_
        refine a_pick (lc2 := [(0, .ref p0), (1, .int p1), (2, .int p2), (3, .int v6), (4, .int 0), (5, .int 1)]) [3, 4, 5, 2, 1, 0] rfl ?_
        exact t_X12_share_b44 h N N p0 p1 p2 v6 0 1
