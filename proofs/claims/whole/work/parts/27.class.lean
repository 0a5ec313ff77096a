theorem dX11_incomeIn_0 : decode cX11_incomeIn 0 = .ok (.iconst 0, 1) := by decide +kernel
theorem dX11_incomeIn_1 : decode cX11_incomeIn 1 = .ok (.istore_n 2, 1) := by decide +kernel
theorem dX11_incomeIn_2 : decode cX11_incomeIn 2 = .ok (.iconst 0, 1) := by decide +kernel
theorem dX11_incomeIn_3 : decode cX11_incomeIn 3 = .ok (.istore_n 3, 1) := by decide +kernel
theorem dX11_incomeIn_4 : decode cX11_incomeIn 4 = .ok (.iload_n 3, 1) := by decide +kernel
theorem dX11_incomeIn_5 : decode cX11_incomeIn 5 = .ok (.aload_n 0, 1) := by decide +kernel
theorem dX11_incomeIn_6 : decode cX11_incomeIn 6 = .ok (.getfield 21, 3) := by decide +kernel
theorem dX11_incomeIn_9 : decode cX11_incomeIn 9 = .ok (.invokevirtual 104, 3) := by decide +kernel
theorem dX11_incomeIn_12 : decode cX11_incomeIn 12 = .ok (.if_icmp .ge 89, 3) := by decide +kernel
theorem dX11_incomeIn_15 : decode cX11_incomeIn 15 = .ok (.aload_n 0, 1) := by decide +kernel
theorem dX11_incomeIn_16 : decode cX11_incomeIn 16 = .ok (.getfield 21, 3) := by decide +kernel
theorem dX11_incomeIn_19 : decode cX11_incomeIn 19 = .ok (.iload_n 3, 1) := by decide +kernel
theorem dX11_incomeIn_20 : decode cX11_incomeIn 20 = .ok (.invokevirtual 124, 3) := by decide +kernel
theorem dX11_incomeIn_23 : decode cX11_incomeIn 23 = .ok (.checkcast 233, 3) := by decide +kernel
theorem dX11_incomeIn_26 : decode cX11_incomeIn 26 = .ok (.astore 4, 2) := by decide +kernel
theorem dX11_incomeIn_28 : decode cX11_incomeIn 28 = .ok (.aload_n 0, 1) := by decide +kernel
theorem dX11_incomeIn_29 : decode cX11_incomeIn 29 = .ok (.iload_n 3, 1) := by decide +kernel
theorem dX11_incomeIn_30 : decode cX11_incomeIn 30 = .ok (.iload_n 1, 1) := by decide +kernel
theorem dX11_incomeIn_31 : decode cX11_incomeIn 31 = .ok (.invokevirtual 276, 3) := by decide +kernel
theorem dX11_incomeIn_34 : decode cX11_incomeIn 34 = .ok (.istore 5, 2) := by decide +kernel
theorem dX11_incomeIn_36 : decode cX11_incomeIn 36 = .ok (.aload_n 0, 1) := by decide +kernel
theorem dX11_incomeIn_37 : decode cX11_incomeIn 37 = .ok (.aload 4, 2) := by decide +kernel
theorem dX11_incomeIn_39 : decode cX11_incomeIn 39 = .ok (.iload_n 1, 1) := by decide +kernel
theorem dX11_incomeIn_40 : decode cX11_incomeIn 40 = .ok (.invokevirtual 272, 3) := by decide +kernel
theorem dX11_incomeIn_43 : decode cX11_incomeIn 43 = .ok (.istore 6, 2) := by decide +kernel
theorem dX11_incomeIn_45 : decode cX11_incomeIn 45 = .ok (.iload 5, 2) := by decide +kernel
theorem dX11_incomeIn_47 : decode cX11_incomeIn 47 = .ok (.iconst (-1), 1) := by decide +kernel
theorem dX11_incomeIn_48 : decode cX11_incomeIn 48 = .ok (.if_icmp .eq 47, 3) := by decide +kernel
theorem dX11_incomeIn_51 : decode cX11_incomeIn 51 = .ok (.iload 6, 2) := by decide +kernel
theorem dX11_incomeIn_53 : decode cX11_incomeIn 53 = .ok (.iconst (-1), 1) := by decide +kernel
theorem dX11_incomeIn_54 : decode cX11_incomeIn 54 = .ok (.if_icmp .ne 6, 3) := by decide +kernel
theorem dX11_incomeIn_57 : decode cX11_incomeIn 57 = .ok (.goto 38, 3) := by decide +kernel
theorem dX11_incomeIn_60 : decode cX11_incomeIn 60 = .ok (.iload_n 2, 1) := by decide +kernel
theorem dX11_incomeIn_61 : decode cX11_incomeIn 61 = .ok (.aload 4, 2) := by decide +kernel
theorem dX11_incomeIn_63 : decode cX11_incomeIn 63 = .ok (.getfield 321, 3) := by decide +kernel
theorem dX11_incomeIn_66 : decode cX11_incomeIn 66 = .ok (.aload_n 0, 1) := by decide +kernel
theorem dX11_incomeIn_67 : decode cX11_incomeIn 67 = .ok (.iload 5, 2) := by decide +kernel
theorem dX11_incomeIn_69 : decode cX11_incomeIn 69 = .ok (.iload 6, 2) := by decide +kernel
theorem dX11_incomeIn_71 : decode cX11_incomeIn 71 = .ok (.aload_n 0, 1) := by decide +kernel
theorem dX11_incomeIn_72 : decode cX11_incomeIn 72 = .ok (.getfield 45, 3) := by decide +kernel
theorem dX11_incomeIn_75 : decode cX11_incomeIn 75 = .ok (.aload 4, 2) := by decide +kernel
theorem dX11_incomeIn_77 : decode cX11_incomeIn 77 = .ok (.invokevirtual 286, 3) := by decide +kernel
theorem dX11_incomeIn_80 : decode cX11_incomeIn 80 = .ok (.iaload, 1) := by decide +kernel
theorem dX11_incomeIn_81 : decode cX11_incomeIn 81 = .ok (.aload 4, 2) := by decide +kernel
theorem dX11_incomeIn_83 : decode cX11_incomeIn 83 = .ok (.getfield 312, 3) := by decide +kernel
theorem dX11_incomeIn_86 : decode cX11_incomeIn 86 = .ok (.invokevirtual 315, 3) := by decide +kernel
theorem dX11_incomeIn_89 : decode cX11_incomeIn 89 = .ok (.invokevirtual 378, 3) := by decide +kernel
theorem dX11_incomeIn_92 : decode cX11_incomeIn 92 = .ok (.imul, 1) := by decide +kernel
theorem dX11_incomeIn_93 : decode cX11_incomeIn 93 = .ok (.iadd, 1) := by decide +kernel
theorem dX11_incomeIn_94 : decode cX11_incomeIn 94 = .ok (.istore_n 2, 1) := by decide +kernel
theorem dX11_incomeIn_95 : decode cX11_incomeIn 95 = .ok (.iinc 3 1, 3) := by decide +kernel
theorem dX11_incomeIn_98 : decode cX11_incomeIn 98 = .ok (.goto (-94), 3) := by decide +kernel
theorem dX11_incomeIn_101 : decode cX11_incomeIn 101 = .ok (.iload_n 2, 1) := by decide +kernel
theorem dX11_incomeIn_102 : decode cX11_incomeIn 102 = .ok (.ireturn, 1) := by decide +kernel
abbrev M_X11_incomeIn : MI := (RX11, cX11_incomeIn, 7, (some .int), ({ frames := 8, cells := 0, slots := 0, locals := 199 } : Room), 0, 0, false)
def f_X11_incomeIn_b95 (N : Nat) (K4 : AH → Nat → Int32 → Int32 → Int32 → Option (Int32 × AH)) (h : AH) (x0 : Nat) (x1 : Int32) (x2 : Int32) (x3 : Int32) : Option (Int32 × AH) := K4 h x0 x1 x2 (x3 + 1)
def f_X11_incomeIn_b4_body (N : Nat) (K4 : AH → Nat → Int32 → Int32 → Int32 → Option (Int32 × AH)) (h : AH) (x0 : Nat) (x1 : Int32) (x2 : Int32) (x3 : Int32) : Option (Int32 × AH) := (xgr h x0 12 2).bind fun v1 => (f_Jx4a65c_size_8abf5 h v1).bind fun v2 => (if v2 ≤ x3 then some (x2, h) else (xgr h x0 12 2).bind fun v4 => (f_Jx4a65c_get_915e3 h v4 x3).bind fun v5 => (xcc h v5 3).bind fun _ => (f_X11_termOf h N x0 x3 x1).bind fun v6 => (f_X11_gaugeOf h N x0 v5 x1).bind fun v7 => (if v6 = (-1) then f_X11_incomeIn_b95 N K4 h x0 x1 x2 x3 else (if v7 = (-1) then f_X11_incomeIn_b95 N K4 h x0 x1 x2 x3 else (xgi h v5 3 3).bind fun v10 => (xgr h x0 12 7).bind fun v11 => (f_X2_district h v5).bind fun v12 => (xia h v11 v12).bind fun v13 => (xgr h v5 3 4).bind fun v14 => (if kd h v14 = 2 then f_X0_kind h v14 else if kd h v14 = 3 then f_X1_kind h v14 else if kd h v14 = 6 then f_X4_kind h v14 else if kd h v14 = 7 then f_X5_kind h v14 else none).bind fun v15 => (f_X11_priceOf h N x0 v6 v7 v13 v15).bind fun q16 => f_X11_incomeIn_b95 N K4 q16.2 x0 x1 (x2 + (v10 * q16.1)) x3)))
def f_X11_incomeIn_b4 (N : Nat) : Nat → AH → Nat → Int32 → Int32 → Int32 → Option (Int32 × AH)
  | 0, _, _, _, _, _ => none
  | n + 1, h, x0, x1, x2, x3 => f_X11_incomeIn_b4_body N  (f_X11_incomeIn_b4 N  n) h x0 x1 x2 x3
def f_X11_incomeIn (h0 : AH) (N : Nat) (p0 : Nat) (p1 : Int32) : Option (Int32 × AH) := if kd h0 p0 = 12 + 1 then f_X11_incomeIn_b4 N N h0 p0 p1 0 0 else none
theorem g_X11_incomeIn {h0 : AH} {N : Nat} {p0 : Nat} {p1 : Int32} {x : (Int32 × AH)} (e : f_X11_incomeIn h0 N p0 p1 = some x) : kd h0 p0 = 12 + 1 := by
  unfold f_X11_incomeIn at e
  by_cases hk : kd h0 p0 = 12 + 1
  · exact hk
  · rw [if_neg hk] at e
    cases e
theorem km_X11_incomeIn : KM yX11_incomeIn M_X11_incomeIn 1 := ⟨in_tb 952 (by decide +kernel) rfl, in_tb 1 (by decide +kernel) rfl, by decide +kernel, rfl, rfl⟩
theorem hm_X11_incomeIn : M_X11_incomeIn.2.2.2.2.2.1 = 0 ∧ M_X11_incomeIn.2.2.2.2.2.2.1 = 0 := ⟨rfl, rfl⟩
section
variable {l : Launch} {g : GG}
set_option maxRecDepth 100000 in
set_option maxHeartbeats 4000000 in
theorem t_X11_incomeIn_b95 (h0 : AH) (N : Nat) (K4 : AH → Nat → Int32 → Int32 → Int32 → Option (Int32 × AH)) (hK4 : ∀ (z : AH) (z0 : Nat) (z1 : Int32) (z2 : Int32) (z3 : Int32), AO l g M_X11_incomeIn false h0 4 [(0, .ref z0), (1, .int z1), (2, .int z2), (3, .int z3)] [] z 0 0 rSi (K4 z z0 z1 z2 z3)) (h : AH) (x0 : Nat) (x1 : Int32) (x2 : Int32) (x3 : Int32) : AO l g M_X11_incomeIn false h0 95 [(0, .ref x0), (1, .int x1), (2, .int x2), (3, .int x3)] [] h 0 0 rSi (f_X11_incomeIn_b95 N K4 h x0 x1 x2 x3) := by
  unfold f_X11_incomeIn_b95
  refine a_iinc (q := 3) (v := (x3 + 1)) (lc2 := [(3, .int (x3 + 1)), (0, .ref x0), (1, .int x1), (2, .int x2)]) dX11_incomeIn_95 rfl rfl (by decide) rfl ?_
  refine a_goto 4 dX11_incomeIn_98 (by decide) ?_
  refine a_pick (lc2 := [(0, .ref x0), (1, .int x1), (2, .int x2), (3, .int (x3 + 1))]) [1, 2, 3, 0] rfl ?_
  exact hK4 h x0 x1 x2 (x3 + 1)
set_option maxRecDepth 100000 in
set_option maxHeartbeats 4000000 in
theorem t_X11_incomeIn_b4_body (h0 : AH) (N : Nat) (K4 : AH → Nat → Int32 → Int32 → Int32 → Option (Int32 × AH)) (hK4 : ∀ (z : AH) (z0 : Nat) (z1 : Int32) (z2 : Int32) (z3 : Int32), AO l g M_X11_incomeIn false h0 4 [(0, .ref z0), (1, .int z1), (2, .int z2), (3, .int z3)] [] z 0 0 rSi (K4 z z0 z1 z2 z3)) (h : AH) (x0 : Nat) (x1 : Int32) (x2 : Int32) (x3 : Int32) : AO l g M_X11_incomeIn false h0 4 [(0, .ref x0), (1, .int x1), (2, .int x2), (3, .int x3)] [] h 0 0 rSi (f_X11_incomeIn_b4_body N K4 h x0 x1 x2 x3) := by
  unfold f_X11_incomeIn_b4_body
  refine a_iload_n dX11_incomeIn_4 rfl 3 rfl ?_
  refine a_aload_n dX11_incomeIn_5 rfl 0 rfl ?_
  refine a_getr kc12 2 dX11_incomeIn_6 (by decide) rfl w_fieldLink_RainCover_21 (fun v1 => ?_)
  refine a_cV_Pi (r := v1) (ci := 0) (as := []) (st := [.int x3]) dX11_incomeIn_9 (c_Jx4a65c_size_8abf5 l g h v1) rfl km_Jx4a65c_size_8abf5 (hm_Jx4a65c_size_8abf5) rfl (by decide) rfl (fun _ ee => g_Jx4a65c_size_8abf5 ee) w_methodLink_RainCover_104 w_instanceMethod_java_util_ArrayList_size___I w_selects_java_util_ArrayList_java_util_ArrayList_size___I_java_util_ArrayList_size___I ⟨⟨by decide, by decide⟩, ⟨by decide, by decide⟩⟩ (Nat.le_of_ble_eq_true rfl) (fun v2 => ?_)
  refine a_icmp_ge 101 dX11_incomeIn_12 (by decide) (fun c3 => ?_) (fun c3 => ?_)
  · refine a_iload_n dX11_incomeIn_101 rfl 2 rfl ?_
    exact a_iret dX11_incomeIn_102 rfl rfl (by decide) (by decide)
  · refine a_aload_n dX11_incomeIn_15 rfl 0 rfl ?_
    refine a_getr kc12 2 dX11_incomeIn_16 (by decide) rfl w_fieldLink_RainCover_21 (fun v4 => ?_)
    refine a_iload_n dX11_incomeIn_19 rfl 3 rfl ?_
    refine a_cV_Pr (r := v4) (ci := 0) (as := [.int x3]) (st := []) dX11_incomeIn_20 (c_Jx4a65c_get_915e3 l g h v4 x3) rfl km_Jx4a65c_get_915e3 (hm_Jx4a65c_get_915e3) rfl (by decide) rfl (fun _ ee => g_Jx4a65c_get_915e3 ee) w_methodLink_RainCover_124 w_instanceMethod_java_util_ArrayList_get__I_Ljava_lang_Object_ w_selects_java_util_ArrayList_java_util_ArrayList_get__I_Ljava_lang_Object__java_util_ArrayList_get__I_Ljava_lang_Object_ ⟨⟨by decide, by decide⟩, ⟨by decide, by decide⟩⟩ (Nat.le_of_ble_eq_true rfl) (fun v5 => ?_)
    refine a_cast kc3 dX11_incomeIn_23 w_classLink_RainCover_233 ?_
    refine a_astore (lc2 := [(4, .ref v5), (0, .ref x0), (1, .int x1), (2, .int x2), (3, .int x3)]) dX11_incomeIn_26 (by decide) rfl ?_
    refine a_aload_n dX11_incomeIn_28 rfl 1 rfl ?_
    refine a_iload_n dX11_incomeIn_29 rfl 4 rfl ?_
    refine a_iload_n dX11_incomeIn_30 rfl 2 rfl ?_
    refine a_cV_Pi (r := x0) (ci := 12) (as := [.int x3, .int x1]) (st := []) dX11_incomeIn_31 (c_X11_termOf l g h N x0 x3 x1) rfl km_X11_termOf (hm_X11_termOf) rfl (by decide) rfl (fun _ ee => g_X11_termOf ee) w_methodLink_RainCover_276 w_instanceMethod_RainCover_termOf__II_I w_selects_RainCover_RainCover_termOf__II_I_RainCover_termOf__II_I ⟨⟨by decide, by decide⟩, ⟨by decide, by decide⟩⟩ (Nat.le_of_ble_eq_true rfl) (fun v6 => ?_)
    refine a_istore (lc2 := [(5, .int v6), (4, .ref v5), (0, .ref x0), (1, .int x1), (2, .int x2), (3, .int x3)]) dX11_incomeIn_34 (by decide) rfl ?_
    refine a_aload_n dX11_incomeIn_36 rfl 2 rfl ?_
    refine a_aload dX11_incomeIn_37 1 rfl ?_
    refine a_iload_n dX11_incomeIn_39 rfl 3 rfl ?_
    refine a_cV_Pi (r := x0) (ci := 12) (as := [.ref v5, .int x1]) (st := []) dX11_incomeIn_40 (c_X11_gaugeOf l g h N x0 v5 x1) rfl km_X11_gaugeOf (hm_X11_gaugeOf) rfl (by decide) rfl (fun _ ee => g_X11_gaugeOf ee) w_methodLink_RainCover_272 w_instanceMethod_RainCover_gaugeOf__LRainCover_Farm_I_I w_selects_RainCover_RainCover_gaugeOf__LRainCover_Farm_I_I_RainCover_gaugeOf__LRainCover_Farm_I_I ⟨⟨by decide, by decide⟩, ⟨by decide, by decide⟩⟩ (Nat.le_of_ble_eq_true rfl) (fun v7 => ?_)
    refine a_istore (lc2 := [(6, .int v7), (5, .int v6), (4, .ref v5), (0, .ref x0), (1, .int x1), (2, .int x2), (3, .int x3)]) dX11_incomeIn_43 (by decide) rfl ?_
    refine a_iload dX11_incomeIn_45 1 rfl ?_
    refine a_iconst (v := (-1)) dX11_incomeIn_47 (by decide) ?_
    refine a_icmp_eq 95 dX11_incomeIn_48 (by decide) (fun c8 => ?_) (fun c8 => ?_)
    · refine a_pick (lc2 := [(0, .ref x0), (1, .int x1), (2, .int x2), (3, .int x3)]) [3, 4, 5, 6] rfl ?_
      exact t_X11_incomeIn_b95 h0 N K4 hK4 h x0 x1 x2 x3
    · refine a_iload dX11_incomeIn_51 0 rfl ?_
      refine a_iconst (v := (-1)) dX11_incomeIn_53 (by decide) ?_
      refine a_icmp_ne 60 dX11_incomeIn_54 (by decide) (fun c9 => ?_) (fun c9 => ?_)
      · refine a_goto 95 dX11_incomeIn_57 (by decide) ?_
        refine a_pick (lc2 := [(0, .ref x0), (1, .int x1), (2, .int x2), (3, .int x3)]) [3, 4, 5, 6] rfl ?_
        exact t_X11_incomeIn_b95 h0 N K4 hK4 h x0 x1 x2 x3
      · refine a_iload_n dX11_incomeIn_60 rfl 5 rfl ?_
        refine a_aload dX11_incomeIn_61 2 rfl ?_
        refine a_geti kc3 3 dX11_incomeIn_63 (by decide) rfl w_fieldLink_RainCover_321 (fun v10 => ?_)
        refine a_aload_n dX11_incomeIn_66 rfl 3 rfl ?_
        refine a_iload dX11_incomeIn_67 1 rfl ?_
        refine a_iload dX11_incomeIn_69 0 rfl ?_
        refine a_aload_n dX11_incomeIn_71 rfl 3 rfl ?_
        refine a_getr kc12 7 dX11_incomeIn_72 (by decide) rfl w_fieldLink_RainCover_45 (fun v11 => ?_)
        refine a_aload dX11_incomeIn_75 2 rfl ?_
        refine a_cV_Pi (r := v5) (ci := 3) (as := []) (st := [.ref v11, .int v7, .int v6, .ref x0, .int v10, .int x2]) dX11_incomeIn_77 (c_X2_district l g h v5) rfl km_X2_district (hm_X2_district) rfl (by decide) rfl (fun _ ee => g_X2_district ee) w_methodLink_RainCover_286 w_instanceMethod_RainCover_Farm_district___I w_selects_RainCover_Farm_RainCover_Farm_district___I_RainCover_Farm_district___I ⟨⟨by decide, by decide⟩, ⟨by decide, by decide⟩⟩ (Nat.le_of_ble_eq_true rfl) (fun v12 => ?_)
        refine a_iald dX11_incomeIn_80 (fun v13 => ?_)
        refine a_aload dX11_incomeIn_81 2 rfl ?_
        refine a_getr kc3 4 dX11_incomeIn_83 (by decide) rfl w_fieldLink_RainCover_312 (fun v14 => ?_)
        have J17 : ∀ (v15 : Int32), AO l g M_X11_incomeIn false h0 89 [(6, .int v7), (5, .int v6), (4, .ref v5), (0, .ref x0), (1, .int x1), (2, .int x2), (3, .int x3)] [.int v15, .int v13, .int v7, .int v6, .ref x0, .int v10, .int x2] h 0 0 rSi ((f_X11_priceOf h N x0 v6 v7 v13 v15).bind fun q16 => f_X11_incomeIn_b95 N K4 q16.2 x0 x1 (x2 + (v10 * q16.1)) x3) := by
          intro v15
          refine a_cV_Si (r := x0) (ci := 12) (as := [.int v6, .int v7, .int v13, .int v15]) (st := [.int v10, .int x2]) dX11_incomeIn_89 (c_X11_priceOf l g h N x0 v6 v7 v13 v15) rfl km_X11_priceOf (hm_X11_priceOf) rfl (by decide) rfl (fun _ ee => g_X11_priceOf ee) w_methodLink_RainCover_378 w_instanceMethod_RainCover_priceOf__IIII_I w_selects_RainCover_RainCover_priceOf__IIII_I_RainCover_priceOf__IIII_I ⟨⟨by decide, by decide⟩, ⟨by decide, by decide⟩⟩ (Nat.le_of_ble_eq_true rfl) (fun q16 => ?_)
          refine a_imul dX11_incomeIn_92 ?_
          refine a_iadd dX11_incomeIn_93 ?_
          refine a_istore_n (lc2 := [(2, .int (x2 + (v10 * q16.1))), (6, .int v7), (5, .int v6), (4, .ref v5), (0, .ref x0), (1, .int x1), (3, .int x3)]) dX11_incomeIn_94 rfl (by decide) rfl ?_
          refine a_pick (lc2 := [(0, .ref x0), (1, .int x1), (2, .int (x2 + (v10 * q16.1))), (3, .int x3)]) [4, 5, 0, 6] rfl ?_
          exact t_X11_incomeIn_b95 h0 N K4 hK4 q16.2 x0 x1 (x2 + (v10 * q16.1)) x3
        refine a_br (fun e18 => ?_) (fun e18 => ?_)
        · exact a_cU_Pi (r := v14) (ci := 1) (as := []) (st := [.int v13, .int v7, .int v6, .ref x0, .int v10, .int x2]) dX11_incomeIn_86 (c_X0_kind l g h v14) rfl km_X0_kind (hm_X0_kind) ⟨"RainCover$Crop", "kind", "()I"⟩ "RainCover$Crop" rfl (by decide) (fun _ _ => e18) w_methodLink_RainCover_315 w_sameMethod_RainCover_Crop_RainCover_Crop_kind___I w_instanceMethod_RainCover_Bean_kind___I w_selects_RainCover_Bean_RainCover_Crop_kind___I_RainCover_Bean_kind___I (Or.inr ⟨w_instanceMethod_RainCover_Crop_kind___I, _, _, _, w_code_RainCover_Crop_kind___I⟩) ⟨by decide, by decide, show _ = some 0 from by decide +kernel⟩ ⟨⟨by decide, by decide⟩, ⟨by decide, by decide⟩⟩ (Nat.le_of_ble_eq_true rfl) J17
        · refine a_br (fun e19 => ?_) (fun e19 => ?_)
          · exact a_cV_Pi (r := v14) (ci := 2) (as := []) (st := [.int v13, .int v7, .int v6, .ref x0, .int v10, .int x2]) dX11_incomeIn_86 (c_X1_kind l g h v14) rfl km_X1_kind (hm_X1_kind) rfl (by decide) rfl (fun _ _ => e19) w_methodLink_RainCover_315 w_instanceMethod_RainCover_Crop_kind___I w_selects_RainCover_Crop_RainCover_Crop_kind___I_RainCover_Crop_kind___I ⟨⟨by decide, by decide⟩, ⟨by decide, by decide⟩⟩ (Nat.le_of_ble_eq_true rfl) J17
          · refine a_br (fun e20 => ?_) (fun e20 => ?_)
            · exact a_cU_Pi (r := v14) (ci := 5) (as := []) (st := [.int v13, .int v7, .int v6, .ref x0, .int v10, .int x2]) dX11_incomeIn_86 (c_X4_kind l g h v14) rfl km_X4_kind (hm_X4_kind) ⟨"RainCover$Crop", "kind", "()I"⟩ "RainCover$Crop" rfl (by decide) (fun _ _ => e20) w_methodLink_RainCover_315 w_sameMethod_RainCover_Crop_RainCover_Crop_kind___I w_instanceMethod_RainCover_Grain_kind___I w_selects_RainCover_Grain_RainCover_Crop_kind___I_RainCover_Grain_kind___I (Or.inr ⟨w_instanceMethod_RainCover_Crop_kind___I, _, _, _, w_code_RainCover_Crop_kind___I⟩) ⟨by decide, by decide, show _ = some 0 from by decide +kernel⟩ ⟨⟨by decide, by decide⟩, ⟨by decide, by decide⟩⟩ (Nat.le_of_ble_eq_true rfl) J17
            · refine a_br (fun e21 => ?_) (fun e21 => ?_)
              · exact a_cU_Pi (r := v14) (ci := 6) (as := []) (st := [.int v13, .int v7, .int v6, .ref x0, .int v10, .int x2]) dX11_incomeIn_86 (c_X5_kind l g h v14) rfl km_X5_kind (hm_X5_kind) ⟨"RainCover$Crop", "kind", "()I"⟩ "RainCover$Crop" rfl (by decide) (fun _ _ => e21) w_methodLink_RainCover_315 w_sameMethod_RainCover_Crop_RainCover_Crop_kind___I w_instanceMethod_RainCover_Maize_kind___I w_selects_RainCover_Maize_RainCover_Crop_kind___I_RainCover_Maize_kind___I (Or.inr ⟨w_instanceMethod_RainCover_Crop_kind___I, _, _, _, w_code_RainCover_Crop_kind___I⟩) ⟨by decide, by decide, show _ = some 0 from by decide +kernel⟩ ⟨⟨by decide, by decide⟩, ⟨by decide, by decide⟩⟩ (Nat.le_of_ble_eq_true rfl) J17
              · exact a_nb
set_option maxRecDepth 100000 in
set_option maxHeartbeats 4000000 in
theorem t_X11_incomeIn_b4 (h0 : AH) (N : Nat) : ∀ (n : Nat) (h : AH) (x0 : Nat) (x1 : Int32) (x2 : Int32) (x3 : Int32) , AO l g M_X11_incomeIn false h0 4 [(0, .ref x0), (1, .int x1), (2, .int x2), (3, .int x3)] [] h 0 0 rSi (f_X11_incomeIn_b4 N  n h x0 x1 x2 x3) := by
  intro n
  induction n with
  | zero => intro h x0 x1 x2 x3; exact a_eq rfl a_none
  | succ n ih => intro h x0 x1 x2 x3; exact a_eq rfl (t_X11_incomeIn_b4_body h0 N  (f_X11_incomeIn_b4 N  n) ih h x0 x1 x2 x3)
end
set_option maxRecDepth 100000 in
set_option maxHeartbeats 4000000 in
theorem c_X11_incomeIn (l : Launch) (g : GG) (h0 : AH) (N : Nat) (p0 : Nat) (p1 : Int32) : CN l g yX11_incomeIn M_X11_incomeIn false [.ref p0, .int p1] h0 rSi (f_X11_incomeIn h0 N p0 p1) := by
  refine CN.of (by decide) rfl (fun hh => by first | rfl | cases hh) (Nat.le_of_ble_eq_true rfl) ?_
  unfold f_X11_incomeIn
  refine a_gd (fun hkd => ?_)
  refine a_iconst (v := 0) dX11_incomeIn_0 (by decide) ?_
  refine a_istore_n (lc2 := [(2, .int 0), (0, .ref p0), (1, .int p1)]) dX11_incomeIn_1 rfl (by decide) rfl ?_
  refine a_iconst (v := 0) dX11_incomeIn_2 (by decide) ?_
  refine a_istore_n (lc2 := [(3, .int 0), (2, .int 0), (0, .ref p0), (1, .int p1)]) dX11_incomeIn_3 rfl (by decide) rfl ?_
  refine a_pick (lc2 := [(0, .ref p0), (1, .int p1), (2, .int 0), (3, .int 0)]) [2, 3, 1, 0] rfl ?_
  exact t_X11_incomeIn_b4 h0 N N h0 p0 p1 0 0
theorem dX11_income_0 : decode cX11_income 0 = .ok (.iload_n 1, 1) := by decide +kernel
theorem dX11_income_1 : decode cX11_income 1 = .ok (.invokestatic 100, 3) := by decide +kernel
theorem dX11_income_4 : decode cX11_income 4 = .ok (.ifCond .eq 11, 3) := by decide +kernel
theorem dX11_income_7 : decode cX11_income 7 = .ok (.aload_n 0, 1) := by decide +kernel
theorem dX11_income_8 : decode cX11_income 8 = .ok (.iload_n 1, 1) := by decide +kernel
theorem dX11_income_9 : decode cX11_income 9 = .ok (.invokevirtual 394, 3) := by decide +kernel
theorem dX11_income_12 : decode cX11_income 12 = .ok (.goto 4, 3) := by decide +kernel
theorem dX11_income_15 : decode cX11_income 15 = .ok (.iconst (-1), 1) := by decide +kernel
theorem dX11_income_16 : decode cX11_income 16 = .ok (.ireturn, 1) := by decide +kernel
abbrev M_X11_income : MI := (RX11, cX11_income, 2, (some .int), ({ frames := 9, cells := 0, slots := 0, locals := 225 } : Room), 0, 0, false)
def f_X11_income (h0 : AH) (N : Nat) (p0 : Nat) (p1 : Int32) : Option (Int32 × AH) := if kd h0 p0 = 12 + 1 then (f_X11_isSeason h0 p1).bind fun v1 => (if v1 = 0 then some ((-1), h0) else (f_X11_incomeIn h0 N p0 p1).bind fun q3 => some (q3.1, q3.2)) else none
theorem g_X11_income {h0 : AH} {N : Nat} {p0 : Nat} {p1 : Int32} {x : (Int32 × AH)} (e : f_X11_income h0 N p0 p1 = some x) : kd h0 p0 = 12 + 1 := by
  unfold f_X11_income at e
  by_cases hk : kd h0 p0 = 12 + 1
  · exact hk
  · rw [if_neg hk] at e
    cases e
theorem km_X11_income : KM yX11_income M_X11_income 1 := ⟨in_tb 948 (by decide +kernel) rfl, in_tb 1 (by decide +kernel) rfl, by decide +kernel, rfl, rfl⟩
theorem hm_X11_income : M_X11_income.2.2.2.2.2.1 = 0 ∧ M_X11_income.2.2.2.2.2.2.1 = 0 := ⟨rfl, rfl⟩
section
variable {l : Launch} {g : GG}
end
set_option maxRecDepth 100000 in
set_option maxHeartbeats 4000000 in
theorem c_X11_income (l : Launch) (g : GG) (h0 : AH) (N : Nat) (p0 : Nat) (p1 : Int32) : CN l g yX11_income M_X11_income false [.ref p0, .int p1] h0 rSi (f_X11_income h0 N p0 p1) := by
  refine CN.of (by decide) rfl (fun hh => by first | rfl | cases hh) (Nat.le_of_ble_eq_true rfl) ?_
  unfold f_X11_income
  refine a_gd (fun hkd => ?_)
  refine a_iload_n dX11_income_0 rfl 1 rfl ?_
  refine a_cS_Pi (as := [.int p1]) (st := []) dX11_income_1 (c_X11_isSeason l g h0 p1) rfl km_X11_isSeason (hm_X11_isSeason) w_methodLink_RainCover_100 w_static_RainCover_isSeason__I_Z ⟨⟨by decide, by decide⟩, ⟨by decide, by decide⟩⟩ (Nat.le_of_ble_eq_true rfl) (fun v1 => ?_)
  refine a_if_eq 15 dX11_income_4 (by decide) (fun c2 => ?_) (fun c2 => ?_)
  · refine a_iconst (v := (-1)) dX11_income_15 (by decide) ?_
    exact a_iret dX11_income_16 rfl rfl (by decide) (by decide)
  · refine a_aload_n dX11_income_7 rfl 0 rfl ?_
    refine a_iload_n dX11_income_8 rfl 1 rfl ?_
    refine a_cV_Si (r := p0) (ci := 12) (as := [.int p1]) (st := []) dX11_income_9 (c_X11_incomeIn l g h0 N p0 p1) rfl km_X11_incomeIn (hm_X11_incomeIn) rfl (by decide) rfl (fun _ ee => g_X11_incomeIn ee) w_methodLink_RainCover_394 w_instanceMethod_RainCover_incomeIn__I_I w_selects_RainCover_RainCover_incomeIn__I_I_RainCover_incomeIn__I_I ⟨⟨by decide, by decide⟩, ⟨by decide, by decide⟩⟩ (Nat.le_of_ble_eq_true rfl) (fun q3 => ?_)
    refine a_goto 16 dX11_income_12 (by decide) ?_
    exact a_iret dX11_income_16 rfl rfl (by decide) (by decide)
theorem dX11_totalOf_0 : decode cX11_totalOf 0 = .ok (.iconst 0, 1) := by decide +kernel
theorem dX11_totalOf_1 : decode cX11_totalOf 1 = .ok (.istore_n 3, 1) := by decide +kernel
theorem dX11_totalOf_2 : decode cX11_totalOf 2 = .ok (.iconst 0, 1) := by decide +kernel
theorem dX11_totalOf_3 : decode cX11_totalOf 3 = .ok (.istore 4, 2) := by decide +kernel
theorem dX11_totalOf_5 : decode cX11_totalOf 5 = .ok (.iload 4, 2) := by decide +kernel
theorem dX11_totalOf_7 : decode cX11_totalOf 7 = .ok (.aload_n 0, 1) := by decide +kernel
theorem dX11_totalOf_8 : decode cX11_totalOf 8 = .ok (.getfield 21, 3) := by decide +kernel
theorem dX11_totalOf_11 : decode cX11_totalOf 11 = .ok (.invokevirtual 104, 3) := by decide +kernel
theorem dX11_totalOf_14 : decode cX11_totalOf 14 = .ok (.if_icmp .ge 96, 3) := by decide +kernel
theorem dX11_totalOf_17 : decode cX11_totalOf 17 = .ok (.aload_n 0, 1) := by decide +kernel
theorem dX11_totalOf_18 : decode cX11_totalOf 18 = .ok (.getfield 21, 3) := by decide +kernel
theorem dX11_totalOf_21 : decode cX11_totalOf 21 = .ok (.iload 4, 2) := by decide +kernel
theorem dX11_totalOf_23 : decode cX11_totalOf 23 = .ok (.invokevirtual 124, 3) := by decide +kernel
theorem dX11_totalOf_26 : decode cX11_totalOf 26 = .ok (.checkcast 233, 3) := by decide +kernel
theorem dX11_totalOf_29 : decode cX11_totalOf 29 = .ok (.astore 5, 2) := by decide +kernel
theorem dX11_totalOf_31 : decode cX11_totalOf 31 = .ok (.aload_n 0, 1) := by decide +kernel
theorem dX11_totalOf_32 : decode cX11_totalOf 32 = .ok (.iload 4, 2) := by decide +kernel
theorem dX11_totalOf_34 : decode cX11_totalOf 34 = .ok (.iload_n 2, 1) := by decide +kernel
theorem dX11_totalOf_35 : decode cX11_totalOf 35 = .ok (.invokevirtual 276, 3) := by decide +kernel
theorem dX11_totalOf_38 : decode cX11_totalOf 38 = .ok (.istore 6, 2) := by decide +kernel
theorem dX11_totalOf_40 : decode cX11_totalOf 40 = .ok (.aload_n 0, 1) := by decide +kernel
theorem dX11_totalOf_41 : decode cX11_totalOf 41 = .ok (.aload 5, 2) := by decide +kernel
theorem dX11_totalOf_43 : decode cX11_totalOf 43 = .ok (.iload_n 2, 1) := by decide +kernel
theorem dX11_totalOf_44 : decode cX11_totalOf 44 = .ok (.invokevirtual 272, 3) := by decide +kernel
theorem dX11_totalOf_47 : decode cX11_totalOf 47 = .ok (.istore 7, 2) := by decide +kernel
theorem dX11_totalOf_49 : decode cX11_totalOf 49 = .ok (.iload 6, 2) := by decide +kernel
theorem dX11_totalOf_51 : decode cX11_totalOf 51 = .ok (.iconst (-1), 1) := by decide +kernel
theorem dX11_totalOf_52 : decode cX11_totalOf 52 = .ok (.if_icmp .eq 52, 3) := by decide +kernel
theorem dX11_totalOf_55 : decode cX11_totalOf 55 = .ok (.iload 7, 2) := by decide +kernel
theorem dX11_totalOf_57 : decode cX11_totalOf 57 = .ok (.iconst (-1), 1) := by decide +kernel
theorem dX11_totalOf_58 : decode cX11_totalOf 58 = .ok (.if_icmp .ne 6, 3) := by decide +kernel
theorem dX11_totalOf_61 : decode cX11_totalOf 61 = .ok (.goto 43, 3) := by decide +kernel
theorem dX11_totalOf_64 : decode cX11_totalOf 64 = .ok (.iload_n 3, 1) := by decide +kernel
theorem dX11_totalOf_65 : decode cX11_totalOf 65 = .ok (.aload 5, 2) := by decide +kernel
theorem dX11_totalOf_67 : decode cX11_totalOf 67 = .ok (.getfield 321, 3) := by decide +kernel
theorem dX11_totalOf_70 : decode cX11_totalOf 70 = .ok (.aload_n 0, 1) := by decide +kernel
theorem dX11_totalOf_71 : decode cX11_totalOf 71 = .ok (.iload 6, 2) := by decide +kernel
theorem dX11_totalOf_73 : decode cX11_totalOf 73 = .ok (.iload 7, 2) := by decide +kernel
theorem dX11_totalOf_75 : decode cX11_totalOf 75 = .ok (.iload_n 1, 1) := by decide +kernel
theorem dX11_totalOf_76 : decode cX11_totalOf 76 = .ok (.aload_n 0, 1) := by decide +kernel
theorem dX11_totalOf_77 : decode cX11_totalOf 77 = .ok (.getfield 45, 3) := by decide +kernel
theorem dX11_totalOf_80 : decode cX11_totalOf 80 = .ok (.aload 5, 2) := by decide +kernel
theorem dX11_totalOf_82 : decode cX11_totalOf 82 = .ok (.invokevirtual 286, 3) := by decide +kernel
theorem dX11_totalOf_85 : decode cX11_totalOf 85 = .ok (.iaload, 1) := by decide +kernel
theorem dX11_totalOf_86 : decode cX11_totalOf 86 = .ok (.aload 5, 2) := by decide +kernel
theorem dX11_totalOf_88 : decode cX11_totalOf 88 = .ok (.getfield 312, 3) := by decide +kernel
theorem dX11_totalOf_91 : decode cX11_totalOf 91 = .ok (.invokevirtual 315, 3) := by decide +kernel
theorem dX11_totalOf_94 : decode cX11_totalOf 94 = .ok (.aload_n 0, 1) := by decide +kernel
theorem dX11_totalOf_95 : decode cX11_totalOf 95 = .ok (.invokevirtual 179, 3) := by decide +kernel
theorem dX11_totalOf_98 : decode cX11_totalOf 98 = .ok (.invokevirtual 222, 3) := by decide +kernel
theorem dX11_totalOf_101 : decode cX11_totalOf 101 = .ok (.imul, 1) := by decide +kernel
theorem dX11_totalOf_102 : decode cX11_totalOf 102 = .ok (.iadd, 1) := by decide +kernel
theorem dX11_totalOf_103 : decode cX11_totalOf 103 = .ok (.istore_n 3, 1) := by decide +kernel
theorem dX11_totalOf_104 : decode cX11_totalOf 104 = .ok (.iinc 4 1, 3) := by decide +kernel
theorem dX11_totalOf_107 : decode cX11_totalOf 107 = .ok (.goto (-102), 3) := by decide +kernel
theorem dX11_totalOf_110 : decode cX11_totalOf 110 = .ok (.iload_n 3, 1) := by decide +kernel
theorem dX11_totalOf_111 : decode cX11_totalOf 111 = .ok (.ireturn, 1) := by decide +kernel
abbrev M_X11_totalOf : MI := (RX11, cX11_totalOf, 8, (some .int), ({ frames := 6, cells := 0, slots := 0, locals := 148 } : Room), 0, 0, false)
def f_X11_totalOf_b104 (N : Nat) (K5 : AH → Nat → Int32 → Int32 → Int32 → Int32 → Option (Int32 × AH)) (h : AH) (x0 : Nat) (x1 : Int32) (x2 : Int32) (x3 : Int32) (x4 : Int32) : Option (Int32 × AH) := K5 h x0 x1 x2 x3 (x4 + 1)
def f_X11_totalOf_b5_body (N : Nat) (K5 : AH → Nat → Int32 → Int32 → Int32 → Int32 → Option (Int32 × AH)) (h : AH) (x0 : Nat) (x1 : Int32) (x2 : Int32) (x3 : Int32) (x4 : Int32) : Option (Int32 × AH) := (xgr h x0 12 2).bind fun v1 => (f_Jx4a65c_size_8abf5 h v1).bind fun v2 => (if v2 ≤ x4 then some (x3, h) else (xgr h x0 12 2).bind fun v4 => (f_Jx4a65c_get_915e3 h v4 x4).bind fun v5 => (xcc h v5 3).bind fun _ => (f_X11_termOf h N x0 x4 x2).bind fun v6 => (f_X11_gaugeOf h N x0 v5 x2).bind fun v7 => (if v6 = (-1) then f_X11_totalOf_b104 N K5 h x0 x1 x2 x3 x4 else (if v7 = (-1) then f_X11_totalOf_b104 N K5 h x0 x1 x2 x3 x4 else (xgi h v5 3 3).bind fun v10 => (xgr h x0 12 7).bind fun v11 => (f_X2_district h v5).bind fun v12 => (xia h v11 v12).bind fun v13 => (xgr h v5 3 4).bind fun v14 => (if kd h v14 = 2 then f_X0_kind h v14 else if kd h v14 = 3 then f_X1_kind h v14 else if kd h v14 = 6 then f_X4_kind h v14 else if kd h v14 = 7 then f_X5_kind h v14 else none).bind fun v15 => (f_X11_now h x0).bind fun v16 => (f_X11_payOn h N x0 v6 v7 x1 v13 v15 v16).bind fun q17 => f_X11_totalOf_b104 N K5 q17.2 x0 x1 x2 (x3 + (v10 * q17.1)) x4)))
def f_X11_totalOf_b5 (N : Nat) : Nat → AH → Nat → Int32 → Int32 → Int32 → Int32 → Option (Int32 × AH)
  | 0, _, _, _, _, _, _ => none
  | n + 1, h, x0, x1, x2, x3, x4 => f_X11_totalOf_b5_body N  (f_X11_totalOf_b5 N  n) h x0 x1 x2 x3 x4
def f_X11_totalOf (h0 : AH) (N : Nat) (p0 : Nat) (p1 : Int32) (p2 : Int32) : Option (Int32 × AH) := if kd h0 p0 = 12 + 1 then f_X11_totalOf_b5 N N h0 p0 p1 p2 0 0 else none
theorem g_X11_totalOf {h0 : AH} {N : Nat} {p0 : Nat} {p1 : Int32} {p2 : Int32} {x : (Int32 × AH)} (e : f_X11_totalOf h0 N p0 p1 p2 = some x) : kd h0 p0 = 12 + 1 := by
  unfold f_X11_totalOf at e
  by_cases hk : kd h0 p0 = 12 + 1
  · exact hk
  · rw [if_neg hk] at e
    cases e
theorem km_X11_totalOf : KM yX11_totalOf M_X11_totalOf 2 := ⟨in_tb 960 (by decide +kernel) rfl, in_tb 1 (by decide +kernel) rfl, by decide +kernel, rfl, rfl⟩
theorem hm_X11_totalOf : M_X11_totalOf.2.2.2.2.2.1 = 0 ∧ M_X11_totalOf.2.2.2.2.2.2.1 = 0 := ⟨rfl, rfl⟩
section
variable {l : Launch} {g : GG}
set_option maxRecDepth 100000 in
set_option maxHeartbeats 4000000 in
theorem t_X11_totalOf_b104 (h0 : AH) (N : Nat) (K5 : AH → Nat → Int32 → Int32 → Int32 → Int32 → Option (Int32 × AH)) (hK5 : ∀ (z : AH) (z0 : Nat) (z1 : Int32) (z2 : Int32) (z3 : Int32) (z4 : Int32), AO l g M_X11_totalOf false h0 5 [(0, .ref z0), (1, .int z1), (2, .int z2), (3, .int z3), (4, .int z4)] [] z 0 0 rSi (K5 z z0 z1 z2 z3 z4)) (h : AH) (x0 : Nat) (x1 : Int32) (x2 : Int32) (x3 : Int32) (x4 : Int32) : AO l g M_X11_totalOf false h0 104 [(0, .ref x0), (1, .int x1), (2, .int x2), (3, .int x3), (4, .int x4)] [] h 0 0 rSi (f_X11_totalOf_b104 N K5 h x0 x1 x2 x3 x4) := by
  unfold f_X11_totalOf_b104
  refine a_iinc (q := 4) (v := (x4 + 1)) (lc2 := [(4, .int (x4 + 1)), (0, .ref x0), (1, .int x1), (2, .int x2), (3, .int x3)]) dX11_totalOf_104 rfl rfl (by decide) rfl ?_
  refine a_goto 5 dX11_totalOf_107 (by decide) ?_
  refine a_pick (lc2 := [(0, .ref x0), (1, .int x1), (2, .int x2), (3, .int x3), (4, .int (x4 + 1))]) [1, 2, 3, 4, 0] rfl ?_
  exact hK5 h x0 x1 x2 x3 (x4 + 1)
set_option maxRecDepth 100000 in
set_option maxHeartbeats 4000000 in
theorem t_X11_totalOf_b5_body (h0 : AH) (N : Nat) (K5 : AH → Nat → Int32 → Int32 → Int32 → Int32 → Option (Int32 × AH)) (hK5 : ∀ (z : AH) (z0 : Nat) (z1 : Int32) (z2 : Int32) (z3 : Int32) (z4 : Int32), AO l g M_X11_totalOf false h0 5 [(0, .ref z0), (1, .int z1), (2, .int z2), (3, .int z3), (4, .int z4)] [] z 0 0 rSi (K5 z z0 z1 z2 z3 z4)) (h : AH) (x0 : Nat) (x1 : Int32) (x2 : Int32) (x3 : Int32) (x4 : Int32) : AO l g M_X11_totalOf false h0 5 [(0, .ref x0), (1, .int x1), (2, .int x2), (3, .int x3), (4, .int x4)] [] h 0 0 rSi (f_X11_totalOf_b5_body N K5 h x0 x1 x2 x3 x4) := by
  unfold f_X11_totalOf_b5_body
  refine a_iload dX11_totalOf_5 4 rfl ?_
  refine a_aload_n dX11_totalOf_7 rfl 0 rfl ?_
  refine a_getr kc12 2 dX11_totalOf_8 (by decide) rfl w_fieldLink_RainCover_21 (fun v1 => ?_)
  refine a_cV_Pi (r := v1) (ci := 0) (as := []) (st := [.int x4]) dX11_totalOf_11 (c_Jx4a65c_size_8abf5 l g h v1) rfl km_Jx4a65c_size_8abf5 (hm_Jx4a65c_size_8abf5) rfl (by decide) rfl (fun _ ee => g_Jx4a65c_size_8abf5 ee) w_methodLink_RainCover_104 w_instanceMethod_java_util_ArrayList_size___I w_selects_java_util_ArrayList_java_util_ArrayList_size___I_java_util_ArrayList_size___I ⟨⟨by decide, by decide⟩, ⟨by decide, by decide⟩⟩ (Nat.le_of_ble_eq_true rfl) (fun v2 => ?_)
  refine a_icmp_ge 110 dX11_totalOf_14 (by decide) (fun c3 => ?_) (fun c3 => ?_)
  · refine a_iload_n dX11_totalOf_110 rfl 3 rfl ?_
    exact a_iret dX11_totalOf_111 rfl rfl (by decide) (by decide)
  · refine a_aload_n dX11_totalOf_17 rfl 0 rfl ?_
    refine a_getr kc12 2 dX11_totalOf_18 (by decide) rfl w_fieldLink_RainCover_21 (fun v4 => ?_)
    refine a_iload dX11_totalOf_21 4 rfl ?_
    refine a_cV_Pr (r := v4) (ci := 0) (as := [.int x4]) (st := []) dX11_totalOf_23 (c_Jx4a65c_get_915e3 l g h v4 x4) rfl km_Jx4a65c_get_915e3 (hm_Jx4a65c_get_915e3) rfl (by decide) rfl (fun _ ee => g_Jx4a65c_get_915e3 ee) w_methodLink_RainCover_124 w_instanceMethod_java_util_ArrayList_get__I_Ljava_lang_Object_ w_selects_java_util_ArrayList_java_util_ArrayList_get__I_Ljava_lang_Object__java_util_ArrayList_get__I_Ljava_lang_Object_ ⟨⟨by decide, by decide⟩, ⟨by decide, by decide⟩⟩ (Nat.le_of_ble_eq_true rfl) (fun v5 => ?_)
    refine a_cast kc3 dX11_totalOf_26 w_classLink_RainCover_233 ?_
    refine a_astore (lc2 := [(5, .ref v5), (0, .ref x0), (1, .int x1), (2, .int x2), (3, .int x3), (4, .int x4)]) dX11_totalOf_29 (by decide) rfl ?_
    refine a_aload_n dX11_totalOf_31 rfl 1 rfl ?_
    refine a_iload dX11_totalOf_32 5 rfl ?_
    refine a_iload_n dX11_totalOf_34 rfl 3 rfl ?_
    refine a_cV_Pi (r := x0) (ci := 12) (as := [.int x4, .int x2]) (st := []) dX11_totalOf_35 (c_X11_termOf l g h N x0 x4 x2) rfl km_X11_termOf (hm_X11_termOf) rfl (by decide) rfl (fun _ ee => g_X11_termOf ee) w_methodLink_RainCover_276 w_instanceMethod_RainCover_termOf__II_I w_selects_RainCover_RainCover_termOf__II_I_RainCover_termOf__II_I ⟨⟨by decide, by decide⟩, ⟨by decide, by decide⟩⟩ (Nat.le_of_ble_eq_true rfl) (fun v6 => ?_)
    refine a_istore (lc2 := [(6, .int v6), (5, .ref v5), (0, .ref x0), (1, .int x1), (2, .int x2), (3, .int x3), (4, .int x4)]) dX11_totalOf_38 (by decide) rfl ?_
    refine a_aload_n dX11_totalOf_40 rfl 2 rfl ?_
    refine a_aload dX11_totalOf_41 1 rfl ?_
    refine a_iload_n dX11_totalOf_43 rfl 4 rfl ?_
    refine a_cV_Pi (r := x0) (ci := 12) (as := [.ref v5, .int x2]) (st := []) dX11_totalOf_44 (c_X11_gaugeOf l g h N x0 v5 x2) rfl km_X11_gaugeOf (hm_X11_gaugeOf) rfl (by decide) rfl (fun _ ee => g_X11_gaugeOf ee) w_methodLink_RainCover_272 w_instanceMethod_RainCover_gaugeOf__LRainCover_Farm_I_I w_selects_RainCover_RainCover_gaugeOf__LRainCover_Farm_I_I_RainCover_gaugeOf__LRainCover_Farm_I_I ⟨⟨by decide, by decide⟩, ⟨by decide, by decide⟩⟩ (Nat.le_of_ble_eq_true rfl) (fun v7 => ?_)
    refine a_istore (lc2 := [(7, .int v7), (6, .int v6), (5, .ref v5), (0, .ref x0), (1, .int x1), (2, .int x2), (3, .int x3), (4, .int x4)]) dX11_totalOf_47 (by decide) rfl ?_
    refine a_iload dX11_totalOf_49 1 rfl ?_
    refine a_iconst (v := (-1)) dX11_totalOf_51 (by decide) ?_
    refine a_icmp_eq 104 dX11_totalOf_52 (by decide) (fun c8 => ?_) (fun c8 => ?_)
    · refine a_pick (lc2 := [(0, .ref x0), (1, .int x1), (2, .int x2), (3, .int x3), (4, .int x4)]) [3, 4, 5, 6, 7] rfl ?_
      exact t_X11_totalOf_b104 h0 N K5 hK5 h x0 x1 x2 x3 x4
    · refine a_iload dX11_totalOf_55 0 rfl ?_
      refine a_iconst (v := (-1)) dX11_totalOf_57 (by decide) ?_
      refine a_icmp_ne 64 dX11_totalOf_58 (by decide) (fun c9 => ?_) (fun c9 => ?_)
      · refine a_goto 104 dX11_totalOf_61 (by decide) ?_
        refine a_pick (lc2 := [(0, .ref x0), (1, .int x1), (2, .int x2), (3, .int x3), (4, .int x4)]) [3, 4, 5, 6, 7] rfl ?_
        exact t_X11_totalOf_b104 h0 N K5 hK5 h x0 x1 x2 x3 x4
      · refine a_iload_n dX11_totalOf_64 rfl 6 rfl ?_
        refine a_aload dX11_totalOf_65 2 rfl ?_
        refine a_geti kc3 3 dX11_totalOf_67 (by decide) rfl w_fieldLink_RainCover_321 (fun v10 => ?_)
        refine a_aload_n dX11_totalOf_70 rfl 3 rfl ?_
        refine a_iload dX11_totalOf_71 1 rfl ?_
        refine a_iload dX11_totalOf_73 0 rfl ?_
        refine a_iload_n dX11_totalOf_75 rfl 4 rfl ?_
        refine a_aload_n dX11_totalOf_76 rfl 3 rfl ?_
        refine a_getr kc12 7 dX11_totalOf_77 (by decide) rfl w_fieldLink_RainCover_45 (fun v11 => ?_)
        refine a_aload dX11_totalOf_80 2 rfl ?_
        refine a_cV_Pi (r := v5) (ci := 3) (as := []) (st := [.ref v11, .int x1, .int v7, .int v6, .ref x0, .int v10, .int x3]) dX11_totalOf_82 (c_X2_district l g h v5) rfl km_X2_district (hm_X2_district) rfl (by decide) rfl (fun _ ee => g_X2_district ee) w_methodLink_RainCover_286 w_instanceMethod_RainCover_Farm_district___I w_selects_RainCover_Farm_RainCover_Farm_district___I_RainCover_Farm_district___I ⟨⟨by decide, by decide⟩, ⟨by decide, by decide⟩⟩ (Nat.le_of_ble_eq_true rfl) (fun v12 => ?_)
        refine a_iald dX11_totalOf_85 (fun v13 => ?_)
        refine a_aload dX11_totalOf_86 2 rfl ?_
        refine a_getr kc3 4 dX11_totalOf_88 (by decide) rfl w_fieldLink_RainCover_312 (fun v14 => ?_)
        have J18 : ∀ (v15 : Int32), AO l g M_X11_totalOf false h0 94 [(7, .int v7), (6, .int v6), (5, .ref v5), (0, .ref x0), (1, .int x1), (2, .int x2), (3, .int x3), (4, .int x4)] [.int v15, .int v13, .int x1, .int v7, .int v6, .ref x0, .int v10, .int x3] h 0 0 rSi ((f_X11_now h x0).bind fun v16 => (f_X11_payOn h N x0 v6 v7 x1 v13 v15 v16).bind fun q17 => f_X11_totalOf_b104 N K5 q17.2 x0 x1 x2 (x3 + (v10 * q17.1)) x4) := by
          intro v15
          refine a_aload_n dX11_totalOf_94 rfl 3 rfl ?_
          refine a_cV_Pi (r := x0) (ci := 12) (as := []) (st := [.int v15, .int v13, .int x1, .int v7, .int v6, .ref x0, .int v10, .int x3]) dX11_totalOf_95 (c_X11_now l g h x0) rfl km_X11_now (hm_X11_now) rfl (by decide) rfl (fun _ ee => g_X11_now ee) w_methodLink_RainCover_179 w_instanceMethod_RainCover_now___I w_selects_RainCover_RainCover_now___I_RainCover_now___I ⟨⟨by decide, by decide⟩, ⟨by decide, by decide⟩⟩ (Nat.le_of_ble_eq_true rfl) (fun v16 => ?_)
          refine a_cV_Si (r := x0) (ci := 12) (as := [.int v6, .int v7, .int x1, .int v13, .int v15, .int v16]) (st := [.int v10, .int x3]) dX11_totalOf_98 (c_X11_payOn l g h N x0 v6 v7 x1 v13 v15 v16) rfl km_X11_payOn (hm_X11_payOn) rfl (by decide) rfl (fun _ ee => g_X11_payOn ee) w_methodLink_RainCover_222 w_instanceMethod_RainCover_payOn__IIIIII_I w_selects_RainCover_RainCover_payOn__IIIIII_I_RainCover_payOn__IIIIII_I ⟨⟨by decide, by decide⟩, ⟨by decide, by decide⟩⟩ (Nat.le_of_ble_eq_true rfl) (fun q17 => ?_)
          refine a_imul dX11_totalOf_101 ?_
          refine a_iadd dX11_totalOf_102 ?_
          refine a_istore_n (lc2 := [(3, .int (x3 + (v10 * q17.1))), (7, .int v7), (6, .int v6), (5, .ref v5), (0, .ref x0), (1, .int x1), (2, .int x2), (4, .int x4)]) dX11_totalOf_103 rfl (by decide) rfl ?_
          refine a_pick (lc2 := [(0, .ref x0), (1, .int x1), (2, .int x2), (3, .int (x3 + (v10 * q17.1))), (4, .int x4)]) [4, 5, 6, 0, 7] rfl ?_
          exact t_X11_totalOf_b104 h0 N K5 hK5 q17.2 x0 x1 x2 (x3 + (v10 * q17.1)) x4
        refine a_br (fun e19 => ?_) (fun e19 => ?_)
        · exact a_cU_Pi (r := v14) (ci := 1) (as := []) (st := [.int v13, .int x1, .int v7, .int v6, .ref x0, .int v10, .int x3]) dX11_totalOf_91 (c_X0_kind l g h v14) rfl km_X0_kind (hm_X0_kind) ⟨"RainCover$Crop", "kind", "()I"⟩ "RainCover$Crop" rfl (by decide) (fun _ _ => e19) w_methodLink_RainCover_315 w_sameMethod_RainCover_Crop_RainCover_Crop_kind___I w_instanceMethod_RainCover_Bean_kind___I w_selects_RainCover_Bean_RainCover_Crop_kind___I_RainCover_Bean_kind___I (Or.inr ⟨w_instanceMethod_RainCover_Crop_kind___I, _, _, _, w_code_RainCover_Crop_kind___I⟩) ⟨by decide, by decide, show _ = some 0 from by decide +kernel⟩ ⟨⟨by decide, by decide⟩, ⟨by decide, by decide⟩⟩ (Nat.le_of_ble_eq_true rfl) J18
        · refine a_br (fun e20 => ?_) (fun e20 => ?_)
          · exact a_cV_Pi (r := v14) (ci := 2) (as := []) (st := [.int v13, .int x1, .int v7, .int v6, .ref x0, .int v10, .int x3]) dX11_totalOf_91 (c_X1_kind l g h v14) rfl km_X1_kind (hm_X1_kind) rfl (by decide) rfl (fun _ _ => e20) w_methodLink_RainCover_315 w_instanceMethod_RainCover_Crop_kind___I w_selects_RainCover_Crop_RainCover_Crop_kind___I_RainCover_Crop_kind___I ⟨⟨by decide, by decide⟩, ⟨by decide, by decide⟩⟩ (Nat.le_of_ble_eq_true rfl) J18
          · refine a_br (fun e21 => ?_) (fun e21 => ?_)
            · exact a_cU_Pi (r := v14) (ci := 5) (as := []) (st := [.int v13, .int x1, .int v7, .int v6, .ref x0, .int v10, .int x3]) dX11_totalOf_91 (c_X4_kind l g h v14) rfl km_X4_kind (hm_X4_kind) ⟨"RainCover$Crop", "kind", "()I"⟩ "RainCover$Crop" rfl (by decide) (fun _ _ => e21) w_methodLink_RainCover_315 w_sameMethod_RainCover_Crop_RainCover_Crop_kind___I w_instanceMethod_RainCover_Grain_kind___I w_selects_RainCover_Grain_RainCover_Crop_kind___I_RainCover_Grain_kind___I (Or.inr ⟨w_instanceMethod_RainCover_Crop_kind___I, _, _, _, w_code_RainCover_Crop_kind___I⟩) ⟨by decide, by decide, show _ = some 0 from by decide +kernel⟩ ⟨⟨by decide, by decide⟩, ⟨by decide, by decide⟩⟩ (Nat.le_of_ble_eq_true rfl) J18
            · refine a_br (fun e22 => ?_) (fun e22 => ?_)
              · exact a_cU_Pi (r := v14) (ci := 6) (as := []) (st := [.int v13, .int x1, .int v7, .int v6, .ref x0, .int v10, .int x3]) dX11_totalOf_91 (c_X5_kind l g h v14) rfl km_X5_kind (hm_X5_kind) ⟨"RainCover$Crop", "kind", "()I"⟩ "RainCover$Crop" rfl (by decide) (fun _ _ => e22) w_methodLink_RainCover_315 w_sameMethod_RainCover_Crop_RainCover_Crop_kind___I w_instanceMethod_RainCover_Maize_kind___I w_selects_RainCover_Maize_RainCover_Crop_kind___I_RainCover_Maize_kind___I (Or.inr ⟨w_instanceMethod_RainCover_Crop_kind___I, _, _, _, w_code_RainCover_Crop_kind___I⟩) ⟨by decide, by decide, show _ = some 0 from by decide +kernel⟩ ⟨⟨by decide, by decide⟩, ⟨by decide, by decide⟩⟩ (Nat.le_of_ble_eq_true rfl) J18
              · exact a_nb
set_option maxRecDepth 100000 in
set_option maxHeartbeats 4000000 in
theorem t_X11_totalOf_b5 (h0 : AH) (N : Nat) : ∀ (n : Nat) (h : AH) (x0 : Nat) (x1 : Int32) (x2 : Int32) (x3 : Int32) (x4 : Int32) , AO l g M_X11_totalOf false h0 5 [(0, .ref x0), (1, .int x1), (2, .int x2), (3, .int x3), (4, .int x4)] [] h 0 0 rSi (f_X11_totalOf_b5 N  n h x0 x1 x2 x3 x4) := by
  intro n
  induction n with
  | zero => intro h x0 x1 x2 x3 x4; exact a_eq rfl a_none
  | succ n ih => intro h x0 x1 x2 x3 x4; exact a_eq rfl (t_X11_totalOf_b5_body h0 N  (f_X11_totalOf_b5 N  n) ih h x0 x1 x2 x3 x4)
end
set_option maxRecDepth 100000 in
set_option maxHeartbeats 4000000 in
theorem c_X11_totalOf (l : Launch) (g : GG) (h0 : AH) (N : Nat) (p0 : Nat) (p1 : Int32) (p2 : Int32) : CN l g yX11_totalOf M_X11_totalOf false [.ref p0, .int p1, .int p2] h0 rSi (f_X11_totalOf h0 N p0 p1 p2) := by
  refine CN.of (by decide) rfl (fun hh => by first | rfl | cases hh) (Nat.le_of_ble_eq_true rfl) ?_
  unfold f_X11_totalOf
  refine a_gd (fun hkd => ?_)
  refine a_iconst (v := 0) dX11_totalOf_0 (by decide) ?_
  refine a_istore_n (lc2 := [(3, .int 0), (0, .ref p0), (1, .int p1), (2, .int p2)]) dX11_totalOf_1 rfl (by decide) rfl ?_
  refine a_iconst (v := 0) dX11_totalOf_2 (by decide) ?_
  refine a_istore (lc2 := [(4, .int 0), (3, .int 0), (0, .ref p0), (1, .int p1), (2, .int p2)]) dX11_totalOf_3 (by decide) rfl ?_
  refine a_pick (lc2 := [(0, .ref p0), (1, .int p1), (2, .int p2), (3, .int 0), (4, .int 0)]) [2, 3, 4, 1, 0] rfl ?_
  exact t_X11_totalOf_b5 h0 N N h0 p0 p1 p2 0 0
theorem dX11_total_0 : decode cX11_total 0 = .ok (.iload_n 1, 1) := by decide +kernel
theorem dX11_total_1 : decode cX11_total 1 = .ok (.invokestatic 100, 3) := by decide +kernel
theorem dX11_total_4 : decode cX11_total 4 = .ok (.ifCond .eq 19, 3) := by decide +kernel
theorem dX11_total_7 : decode cX11_total 7 = .ok (.iload_n 2, 1) := by decide +kernel
theorem dX11_total_8 : decode cX11_total 8 = .ok (.invokestatic 100, 3) := by decide +kernel
theorem dX11_total_11 : decode cX11_total 11 = .ok (.ifCond .eq 12, 3) := by decide +kernel
theorem dX11_total_14 : decode cX11_total 14 = .ok (.aload_n 0, 1) := by decide +kernel
theorem dX11_total_15 : decode cX11_total 15 = .ok (.iload_n 1, 1) := by decide +kernel
theorem dX11_total_16 : decode cX11_total 16 = .ok (.iload_n 2, 1) := by decide +kernel
theorem dX11_total_17 : decode cX11_total 17 = .ok (.invokevirtual 397, 3) := by decide +kernel
theorem dX11_total_20 : decode cX11_total 20 = .ok (.goto 4, 3) := by decide +kernel
theorem dX11_total_23 : decode cX11_total 23 = .ok (.iconst (-1), 1) := by decide +kernel
theorem dX11_total_24 : decode cX11_total 24 = .ok (.ireturn, 1) := by decide +kernel
abbrev M_X11_total : MI := (RX11, cX11_total, 3, (some .int), ({ frames := 7, cells := 0, slots := 0, locals := 175 } : Room), 0, 0, false)
def f_X11_total (h0 : AH) (N : Nat) (p0 : Nat) (p1 : Int32) (p2 : Int32) : Option (Int32 × AH) := if kd h0 p0 = 12 + 1 then (f_X11_isSeason h0 p1).bind fun v1 => (if v1 = 0 then some ((-1), h0) else (f_X11_isSeason h0 p2).bind fun v3 => (if v3 = 0 then some ((-1), h0) else (f_X11_totalOf h0 N p0 p1 p2).bind fun q5 => some (q5.1, q5.2))) else none
theorem g_X11_total {h0 : AH} {N : Nat} {p0 : Nat} {p1 : Int32} {p2 : Int32} {x : (Int32 × AH)} (e : f_X11_total h0 N p0 p1 p2 = some x) : kd h0 p0 = 12 + 1 := by
  unfold f_X11_total at e
  by_cases hk : kd h0 p0 = 12 + 1
  · exact hk
  · rw [if_neg hk] at e
    cases e
theorem km_X11_total : KM yX11_total M_X11_total 2 := ⟨in_tb 956 (by decide +kernel) rfl, in_tb 1 (by decide +kernel) rfl, by decide +kernel, rfl, rfl⟩
theorem hm_X11_total : M_X11_total.2.2.2.2.2.1 = 0 ∧ M_X11_total.2.2.2.2.2.2.1 = 0 := ⟨rfl, rfl⟩
section
variable {l : Launch} {g : GG}
end
set_option maxRecDepth 100000 in
set_option maxHeartbeats 4000000 in
theorem c_X11_total (l : Launch) (g : GG) (h0 : AH) (N : Nat) (p0 : Nat) (p1 : Int32) (p2 : Int32) : CN l g yX11_total M_X11_total false [.ref p0, .int p1, .int p2] h0 rSi (f_X11_total h0 N p0 p1 p2) := by
  refine CN.of (by decide) rfl (fun hh => by first | rfl | cases hh) (Nat.le_of_ble_eq_true rfl) ?_
  unfold f_X11_total
  refine a_gd (fun hkd => ?_)
  refine a_iload_n dX11_total_0 rfl 1 rfl ?_
  refine a_cS_Pi (as := [.int p1]) (st := []) dX11_total_1 (c_X11_isSeason l g h0 p1) rfl km_X11_isSeason (hm_X11_isSeason) w_methodLink_RainCover_100 w_static_RainCover_isSeason__I_Z ⟨⟨by decide, by decide⟩, ⟨by decide, by decide⟩⟩ (Nat.le_of_ble_eq_true rfl) (fun v1 => ?_)
  refine a_if_eq 23 dX11_total_4 (by decide) (fun c2 => ?_) (fun c2 => ?_)
  · refine a_iconst (v := (-1)) dX11_total_23 (by decide) ?_
    exact a_iret dX11_total_24 rfl rfl (by decide) (by decide)
  · refine a_iload_n dX11_total_7 rfl 2 rfl ?_
    refine a_cS_Pi (as := [.int p2]) (st := []) dX11_total_8 (c_X11_isSeason l g h0 p2) rfl km_X11_isSeason (hm_X11_isSeason) w_methodLink_RainCover_100 w_static_RainCover_isSeason__I_Z ⟨⟨by decide, by decide⟩, ⟨by decide, by decide⟩⟩ (Nat.le_of_ble_eq_true rfl) (fun v3 => ?_)
    refine a_if_eq 23 dX11_total_11 (by decide) (fun c4 => ?_) (fun c4 => ?_)
    · refine a_iconst (v := (-1)) dX11_total_23 (by decide) ?_
      exact a_iret dX11_total_24 rfl rfl (by decide) (by decide)
    · refine a_aload_n dX11_total_14 rfl 0 rfl ?_
      refine a_iload_n dX11_total_15 rfl 1 rfl ?_
      refine a_iload_n dX11_total_16 rfl 2 rfl ?_
      refine a_cV_Si (r := p0) (ci := 12) (as := [.int p1, .int p2]) (st := []) dX11_total_17 (c_X11_totalOf l g h0 N p0 p1 p2) rfl km_X11_totalOf (hm_X11_totalOf) rfl (by decide) rfl (fun _ ee => g_X11_totalOf ee) w_methodLink_RainCover_397 w_instanceMethod_RainCover_totalOf__II_I w_selects_RainCover_RainCover_totalOf__II_I_RainCover_totalOf__II_I ⟨⟨by decide, by decide⟩, ⟨by decide, by decide⟩⟩ (Nat.le_of_ble_eq_true rfl) (fun q5 => ?_)
      refine a_goto 24 dX11_total_20 (by decide) ?_
      exact a_iret dX11_total_24 rfl rfl (by decide) (by decide)
theorem dX11_layer_0 : decode cX11_layer 0 = .ok (.iload_n 1, 1) := by decide +kernel
theorem dX11_layer_1 : decode cX11_layer 1 = .ok (.invokestatic 100, 3) := by decide +kernel
theorem dX11_layer_4 : decode cX11_layer 4 = .ok (.ifCond .eq 10, 3) := by decide +kernel
theorem dX11_layer_7 : decode cX11_layer 7 = .ok (.iload_n 2, 1) := by decide +kernel
theorem dX11_layer_8 : decode cX11_layer 8 = .ok (.invokestatic 100, 3) := by decide +kernel
theorem dX11_layer_11 : decode cX11_layer 11 = .ok (.ifCond .ne 5, 3) := by decide +kernel
theorem dX11_layer_14 : decode cX11_layer 14 = .ok (.iconst (-1), 1) := by decide +kernel
theorem dX11_layer_15 : decode cX11_layer 15 = .ok (.ireturn, 1) := by decide +kernel
theorem dX11_layer_16 : decode cX11_layer 16 = .ok (.iload_n 3, 1) := by decide +kernel
theorem dX11_layer_17 : decode cX11_layer 17 = .ok (.iconst 0, 1) := by decide +kernel
theorem dX11_layer_18 : decode cX11_layer 18 = .ok (.ldc_w 400, 3) := by decide +kernel
theorem dX11_layer_21 : decode cX11_layer 21 = .ok (.invokestatic 120, 3) := by decide +kernel
theorem dX11_layer_24 : decode cX11_layer 24 = .ok (.ifCond .eq 15, 3) := by decide +kernel
theorem dX11_layer_27 : decode cX11_layer 27 = .ok (.iload 4, 2) := by decide +kernel
theorem dX11_layer_29 : decode cX11_layer 29 = .ok (.iload_n 3, 1) := by decide +kernel
theorem dX11_layer_30 : decode cX11_layer 30 = .ok (.ldc_w 400, 3) := by decide +kernel
theorem dX11_layer_33 : decode cX11_layer 33 = .ok (.invokestatic 120, 3) := by decide +kernel
theorem dX11_layer_36 : decode cX11_layer 36 = .ok (.ifCond .ne 6, 3) := by decide +kernel
theorem dX11_layer_39 : decode cX11_layer 39 = .ok (.bipush (-2), 2) := by decide +kernel
theorem dX11_layer_41 : decode cX11_layer 41 = .ok (.ireturn, 1) := by decide +kernel
theorem dX11_layer_42 : decode cX11_layer 42 = .ok (.aload_n 0, 1) := by decide +kernel
theorem dX11_layer_43 : decode cX11_layer 43 = .ok (.iload_n 1, 1) := by decide +kernel
theorem dX11_layer_44 : decode cX11_layer 44 = .ok (.iload_n 2, 1) := by decide +kernel
theorem dX11_layer_45 : decode cX11_layer 45 = .ok (.invokevirtual 397, 3) := by decide +kernel
theorem dX11_layer_48 : decode cX11_layer 48 = .ok (.iload_n 3, 1) := by decide +kernel
theorem dX11_layer_49 : decode cX11_layer 49 = .ok (.isub, 1) := by decide +kernel
theorem dX11_layer_50 : decode cX11_layer 50 = .ok (.iconst 0, 1) := by decide +kernel
theorem dX11_layer_51 : decode cX11_layer 51 = .ok (.invokestatic 348, 3) := by decide +kernel
theorem dX11_layer_54 : decode cX11_layer 54 = .ok (.iload 4, 2) := by decide +kernel
theorem dX11_layer_56 : decode cX11_layer 56 = .ok (.iload_n 3, 1) := by decide +kernel
theorem dX11_layer_57 : decode cX11_layer 57 = .ok (.isub, 1) := by decide +kernel
theorem dX11_layer_58 : decode cX11_layer 58 = .ok (.invokestatic 340, 3) := by decide +kernel
theorem dX11_layer_61 : decode cX11_layer 61 = .ok (.ireturn, 1) := by decide +kernel
abbrev M_X11_layer : MI := (RX11, cX11_layer, 5, (some .int), ({ frames := 7, cells := 0, slots := 0, locals := 175 } : Room), 0, 0, false)
def f_X11_layer (h0 : AH) (N : Nat) (p0 : Nat) (p1 : Int32) (p2 : Int32) (p3 : Int32) (p4 : Int32) : Option (Int32 × AH) := if kd h0 p0 = 12 + 1 then (f_X11_isSeason h0 p1).bind fun v1 => (if v1 = 0 then some ((-1), h0) else (f_X11_isSeason h0 p2).bind fun v3 => (if v3 = 0 then some ((-1), h0) else (f_X11_within h0 p3 0 2000000000).bind fun v5 => (if v5 = 0 then some ((-2), h0) else (f_X11_within h0 p4 p3 2000000000).bind fun v7 => (if v7 = 0 then some ((-2), h0) else (f_X11_totalOf h0 N p0 p1 p2).bind fun q9 => some ((if (p4 - p3) < (if (q9.1 - p3) < 0 then 0 else (q9.1 - p3)) then (p4 - p3) else (if (q9.1 - p3) < 0 then 0 else (q9.1 - p3))), q9.2))))) else none
theorem g_X11_layer {h0 : AH} {N : Nat} {p0 : Nat} {p1 : Int32} {p2 : Int32} {p3 : Int32} {p4 : Int32} {x : (Int32 × AH)} (e : f_X11_layer h0 N p0 p1 p2 p3 p4 = some x) : kd h0 p0 = 12 + 1 := by
  unfold f_X11_layer at e
  by_cases hk : kd h0 p0 = 12 + 1
  · exact hk
  · rw [if_neg hk] at e
    cases e
theorem km_X11_layer : KM yX11_layer M_X11_layer 4 := ⟨in_tb 964 (by decide +kernel) rfl, in_tb 1 (by decide +kernel) rfl, by decide +kernel, rfl, rfl⟩
theorem hm_X11_layer : M_X11_layer.2.2.2.2.2.1 = 0 ∧ M_X11_layer.2.2.2.2.2.2.1 = 0 := ⟨rfl, rfl⟩
section
variable {l : Launch} {g : GG}
end
set_option maxRecDepth 100000 in
set_option maxHeartbeats 4000000 in
theorem c_X11_layer (l : Launch) (g : GG) (h0 : AH) (N : Nat) (p0 : Nat) (p1 : Int32) (p2 : Int32) (p3 : Int32) (p4 : Int32) : CN l g yX11_layer M_X11_layer false [.ref p0, .int p1, .int p2, .int p3, .int p4] h0 rSi (f_X11_layer h0 N p0 p1 p2 p3 p4) := by
  refine CN.of (by decide) rfl (fun hh => by first | rfl | cases hh) (Nat.le_of_ble_eq_true rfl) ?_
  unfold f_X11_layer
  refine a_gd (fun hkd => ?_)
  refine a_iload_n dX11_layer_0 rfl 1 rfl ?_
  refine a_cS_Pi (as := [.int p1]) (st := []) dX11_layer_1 (c_X11_isSeason l g h0 p1) rfl km_X11_isSeason (hm_X11_isSeason) w_methodLink_RainCover_100 w_static_RainCover_isSeason__I_Z ⟨⟨by decide, by decide⟩, ⟨by decide, by decide⟩⟩ (Nat.le_of_ble_eq_true rfl) (fun v1 => ?_)
  refine a_if_eq 14 dX11_layer_4 (by decide) (fun c2 => ?_) (fun c2 => ?_)
  · refine a_iconst (v := (-1)) dX11_layer_14 (by decide) ?_
    exact a_iret dX11_layer_15 rfl rfl (by decide) (by decide)
  · refine a_iload_n dX11_layer_7 rfl 2 rfl ?_
    refine a_cS_Pi (as := [.int p2]) (st := []) dX11_layer_8 (c_X11_isSeason l g h0 p2) rfl km_X11_isSeason (hm_X11_isSeason) w_methodLink_RainCover_100 w_static_RainCover_isSeason__I_Z ⟨⟨by decide, by decide⟩, ⟨by decide, by decide⟩⟩ (Nat.le_of_ble_eq_true rfl) (fun v3 => ?_)
    refine a_if_ne 16 dX11_layer_11 (by decide) (fun c4 => ?_) (fun c4 => ?_)
    · refine a_iconst (v := (-1)) dX11_layer_14 (by decide) ?_
      exact a_iret dX11_layer_15 rfl rfl (by decide) (by decide)
    · refine a_iload_n dX11_layer_16 rfl 3 rfl ?_
      refine a_iconst (v := 0) dX11_layer_17 (by decide) ?_
      refine a_ldcw (v := 2000000000) dX11_layer_18 w_constant_RainCover_400 ?_
      refine a_cS_Pi (as := [.int p3, .int 0, .int 2000000000]) (st := []) dX11_layer_21 (c_X11_within l g h0 p3 0 2000000000) rfl km_X11_within (hm_X11_within) w_methodLink_RainCover_120 w_static_RainCover_within__III_Z ⟨⟨by decide, by decide⟩, ⟨by decide, by decide⟩⟩ (Nat.le_of_ble_eq_true rfl) (fun v5 => ?_)
      refine a_if_eq 39 dX11_layer_24 (by decide) (fun c6 => ?_) (fun c6 => ?_)
      · refine a_bipush (v := (-2)) dX11_layer_39 (by decide) ?_
        exact a_iret dX11_layer_41 rfl rfl (by decide) (by decide)
      · refine a_iload dX11_layer_27 4 rfl ?_
        refine a_iload_n dX11_layer_29 rfl 3 rfl ?_
        refine a_ldcw (v := 2000000000) dX11_layer_30 w_constant_RainCover_400 ?_
        refine a_cS_Pi (as := [.int p4, .int p3, .int 2000000000]) (st := []) dX11_layer_33 (c_X11_within l g h0 p4 p3 2000000000) rfl km_X11_within (hm_X11_within) w_methodLink_RainCover_120 w_static_RainCover_within__III_Z ⟨⟨by decide, by decide⟩, ⟨by decide, by decide⟩⟩ (Nat.le_of_ble_eq_true rfl) (fun v7 => ?_)
        refine a_if_ne 42 dX11_layer_36 (by decide) (fun c8 => ?_) (fun c8 => ?_)
        · refine a_bipush (v := (-2)) dX11_layer_39 (by decide) ?_
          exact a_iret dX11_layer_41 rfl rfl (by decide) (by decide)
        · refine a_aload_n dX11_layer_42 rfl 0 rfl ?_
          refine a_iload_n dX11_layer_43 rfl 1 rfl ?_
          refine a_iload_n dX11_layer_44 rfl 2 rfl ?_
          refine a_cV_Si (r := p0) (ci := 12) (as := [.int p1, .int p2]) (st := []) dX11_layer_45 (c_X11_totalOf l g h0 N p0 p1 p2) rfl km_X11_totalOf (hm_X11_totalOf) rfl (by decide) rfl (fun _ ee => g_X11_totalOf ee) w_methodLink_RainCover_397 w_instanceMethod_RainCover_totalOf__II_I w_selects_RainCover_RainCover_totalOf__II_I_RainCover_totalOf__II_I ⟨⟨by decide, by decide⟩, ⟨by decide, by decide⟩⟩ (Nat.le_of_ble_eq_true rfl) (fun q9 => ?_)
          refine a_iload_n dX11_layer_48 rfl 3 rfl ?_
          refine a_isub dX11_layer_49 ?_
          refine a_iconst (v := 0) dX11_layer_50 (by decide) ?_
          refine a_mmax dX11_layer_51 w_methodLink_RainCover_348 w_static_java_lang_Math_max__II_I w_initialized_java_lang_Math w_code_java_lang_Math_max__II_I (by decide) (by decide) (by decide) (by decide) (Nat.le_of_ble_eq_true rfl) ?_
          refine a_iload dX11_layer_54 4 rfl ?_
          refine a_iload_n dX11_layer_56 rfl 3 rfl ?_
          refine a_isub dX11_layer_57 ?_
          refine a_mmin dX11_layer_58 w_methodLink_RainCover_340 w_static_java_lang_Math_min__II_I w_initialized_java_lang_Math w_code_java_lang_Math_min__II_I (by decide) (by decide) (by decide) (by decide) (Nat.le_of_ble_eq_true rfl) ?_
          exact a_iret dX11_layer_61 rfl rfl (by decide) (by decide)
theorem dX11_lots_0 : decode cX11_lots 0 = .ok (.aload_n 0, 1) := by decide +kernel
theorem dX11_lots_1 : decode cX11_lots 1 = .ok (.iload_n 1, 1) := by decide +kernel
theorem dX11_lots_2 : decode cX11_lots 2 = .ok (.putfield 77, 3) := by decide +kernel
theorem dX11_lots_5 : decode cX11_lots 5 = .ok (.iconst 1, 1) := by decide +kernel
theorem dX11_lots_6 : decode cX11_lots 6 = .ok (.ireturn, 1) := by decide +kernel
abbrev M_X11_lots : MI := (RX11, cX11_lots, 2, (some .int), ({ frames := 0, cells := 0, slots := 0, locals := 0 } : Room), 0, 0, false)
def f_X11_lots (h0 : AH) (p0 : Nat) (p1 : Int32) : Option (Int32 × AH) := if kd h0 p0 = 12 + 1 then (xpi h0 p0 12 14 p1).bind fun h1 => some (1, h1) else none
theorem g_X11_lots {h0 : AH} {p0 : Nat} {p1 : Int32} {x : (Int32 × AH)} (e : f_X11_lots h0 p0 p1 = some x) : kd h0 p0 = 12 + 1 := by
  unfold f_X11_lots at e
  by_cases hk : kd h0 p0 = 12 + 1
  · exact hk
  · rw [if_neg hk] at e
    cases e
theorem km_X11_lots : KM yX11_lots M_X11_lots 1 := ⟨in_tb 969 (by decide +kernel) rfl, in_tb 1 (by decide +kernel) rfl, by decide +kernel, rfl, rfl⟩
theorem hm_X11_lots : M_X11_lots.2.2.2.2.2.1 = 0 ∧ M_X11_lots.2.2.2.2.2.2.1 = 0 := ⟨rfl, rfl⟩
section
variable {l : Launch} {g : GG}
end
set_option maxRecDepth 100000 in
set_option maxHeartbeats 4000000 in
theorem c_X11_lots (l : Launch) (g : GG) (h0 : AH) (p0 : Nat) (p1 : Int32) : CN l g yX11_lots M_X11_lots false [.ref p0, .int p1] h0 rSi (f_X11_lots h0 p0 p1) := by
  refine CN.of (by decide) rfl (fun hh => by first | rfl | cases hh) (Nat.le_of_ble_eq_true rfl) ?_
  unfold f_X11_lots
  refine a_gd (fun hkd => ?_)
  refine a_aload_n dX11_lots_0 rfl 0 rfl ?_
  refine a_iload_n dX11_lots_1 rfl 1 rfl ?_
  refine a_puti kc12 14 dX11_lots_2 (by decide) rfl w_fieldLink_RainCover_77 rfl rfl (fun h1 => ?_)
  refine a_iconst (v := 1) dX11_lots_5 (by decide) ?_
  exact a_iret dX11_lots_6 rfl rfl (by decide) (by decide)
theorem dX11_isYear_0 : decode cX11_isYear 0 = .ok (.iconst 0, 1) := by decide +kernel
theorem dX11_isYear_1 : decode cX11_isYear 1 = .ok (.istore_n 3, 1) := by decide +kernel
theorem dX11_isYear_2 : decode cX11_isYear 2 = .ok (.iconst 0, 1) := by decide +kernel
theorem dX11_isYear_3 : decode cX11_isYear 3 = .ok (.istore 4, 2) := by decide +kernel
theorem dX11_isYear_5 : decode cX11_isYear 5 = .ok (.iload 4, 2) := by decide +kernel
theorem dX11_isYear_7 : decode cX11_isYear 7 = .ok (.aload_n 0, 1) := by decide +kernel
theorem dX11_isYear_8 : decode cX11_isYear 8 = .ok (.getfield 12, 3) := by decide +kernel
theorem dX11_isYear_11 : decode cX11_isYear 11 = .ok (.invokevirtual 104, 3) := by decide +kernel
theorem dX11_isYear_14 : decode cX11_isYear 14 = .ok (.if_icmp .ge 45, 3) := by decide +kernel
theorem dX11_isYear_17 : decode cX11_isYear 17 = .ok (.aload_n 0, 1) := by decide +kernel
theorem dX11_isYear_18 : decode cX11_isYear 18 = .ok (.getfield 12, 3) := by decide +kernel
theorem dX11_isYear_21 : decode cX11_isYear 21 = .ok (.iload 4, 2) := by decide +kernel
theorem dX11_isYear_23 : decode cX11_isYear 23 = .ok (.invokevirtual 124, 3) := by decide +kernel
theorem dX11_isYear_26 : decode cX11_isYear 26 = .ok (.checkcast 108, 3) := by decide +kernel
theorem dX11_isYear_29 : decode cX11_isYear 29 = .ok (.iload_n 2, 1) := by decide +kernel
theorem dX11_isYear_30 : decode cX11_isYear 30 = .ok (.invokevirtual 309, 3) := by decide +kernel
theorem dX11_isYear_33 : decode cX11_isYear 33 = .ok (.ifCond .ne 6, 3) := by decide +kernel
theorem dX11_isYear_36 : decode cX11_isYear 36 = .ok (.goto 17, 3) := by decide +kernel
theorem dX11_isYear_39 : decode cX11_isYear 39 = .ok (.aload_n 0, 1) := by decide +kernel
theorem dX11_isYear_40 : decode cX11_isYear 40 = .ok (.iload 4, 2) := by decide +kernel
theorem dX11_isYear_42 : decode cX11_isYear 42 = .ok (.iload_n 1, 1) := by decide +kernel
theorem dX11_isYear_43 : decode cX11_isYear 43 = .ok (.invokevirtual 387, 3) := by decide +kernel
theorem dX11_isYear_46 : decode cX11_isYear 46 = .ok (.ifCond .ne 5, 3) := by decide +kernel
theorem dX11_isYear_49 : decode cX11_isYear 49 = .ok (.iconst 0, 1) := by decide +kernel
theorem dX11_isYear_50 : decode cX11_isYear 50 = .ok (.ireturn, 1) := by decide +kernel
theorem dX11_isYear_51 : decode cX11_isYear 51 = .ok (.iconst 1, 1) := by decide +kernel
theorem dX11_isYear_52 : decode cX11_isYear 52 = .ok (.istore_n 3, 1) := by decide +kernel
theorem dX11_isYear_53 : decode cX11_isYear 53 = .ok (.iinc 4 1, 3) := by decide +kernel
theorem dX11_isYear_56 : decode cX11_isYear 56 = .ok (.goto (-51), 3) := by decide +kernel
theorem dX11_isYear_59 : decode cX11_isYear 59 = .ok (.iload_n 3, 1) := by decide +kernel
theorem dX11_isYear_60 : decode cX11_isYear 60 = .ok (.ireturn, 1) := by decide +kernel
abbrev M_X11_isYear : MI := (RX11, cX11_isYear, 5, (some .boolean), ({ frames := 3, cells := 0, slots := 0, locals := 64 } : Room), 0, 0, false)
def f_X11_isYear_b53 (h : AH) (N : Nat) (K5 : Nat → Int32 → Int32 → Int32 → Int32 → Option Int32) (x0 : Nat) (x1 : Int32) (x2 : Int32) (x3 : Int32) (x4 : Int32) : Option Int32 := K5 x0 x1 x2 x3 (x4 + 1)
def f_X11_isYear_b5_body (h : AH) (N : Nat) (K5 : Nat → Int32 → Int32 → Int32 → Int32 → Option Int32) (x0 : Nat) (x1 : Int32) (x2 : Int32) (x3 : Int32) (x4 : Int32) : Option Int32 := (xgr h x0 12 0).bind fun v1 => (f_Jx4a65c_size_8abf5 h v1).bind fun v2 => (if v2 ≤ x4 then (if x3 = 0 ∨ x3 = 1 then some x3 else none) else (xgr h x0 12 0).bind fun v5 => (f_Jx4a65c_get_915e3 h v5 x4).bind fun v6 => (xcc h v6 4).bind fun _ => (f_X3_standsIn h v6 x2).bind fun v7 => (if v7 = 0 then f_X11_isYear_b53 h N K5 x0 x1 x2 x3 x4 else (f_X11_isKnown h N x0 x4 x1).bind fun v9 => (if v9 = 0 then some 0 else f_X11_isYear_b53 h N K5 x0 x1 x2 1 x4)))
def f_X11_isYear_b5 (h : AH) (N : Nat) : Nat → Nat → Int32 → Int32 → Int32 → Int32 → Option Int32
  | 0, _, _, _, _, _ => none
  | n + 1, x0, x1, x2, x3, x4 => f_X11_isYear_b5_body h N  (f_X11_isYear_b5 h N  n) x0 x1 x2 x3 x4
def f_X11_isYear (h : AH) (N : Nat) (p0 : Nat) (p1 : Int32) (p2 : Int32) : Option Int32 := if kd h p0 = 12 + 1 then f_X11_isYear_b5 h N N p0 p1 p2 0 0 else none
theorem g_X11_isYear {h : AH} {N : Nat} {p0 : Nat} {p1 : Int32} {p2 : Int32} {x : Int32} (e : f_X11_isYear h N p0 p1 p2 = some x) : kd h p0 = 12 + 1 := by
  unfold f_X11_isYear at e
  by_cases hk : kd h p0 = 12 + 1
  · exact hk
  · rw [if_neg hk] at e
    cases e
theorem km_X11_isYear : KM yX11_isYear M_X11_isYear 2 := ⟨in_tb 981 (by decide +kernel) rfl, in_tb 1 (by decide +kernel) rfl, by decide +kernel, rfl, rfl⟩
theorem hm_X11_isYear : M_X11_isYear.2.2.2.2.2.1 = 0 ∧ M_X11_isYear.2.2.2.2.2.2.1 = 0 := ⟨rfl, rfl⟩
section
variable {l : Launch} {g : GG}
set_option maxRecDepth 100000 in
set_option maxHeartbeats 4000000 in
theorem t_X11_isYear_b53 (h : AH) (N : Nat) (K5 : Nat → Int32 → Int32 → Int32 → Int32 → Option Int32) (hK5 : ∀ (z0 : Nat) (z1 : Int32) (z2 : Int32) (z3 : Int32) (z4 : Int32), AO l g M_X11_isYear false h 5 [(0, .ref z0), (1, .int z1), (2, .int z2), (3, .int z3), (4, .int z4)] [] h 0 0 (rPi h) (K5 z0 z1 z2 z3 z4)) (x0 : Nat) (x1 : Int32) (x2 : Int32) (x3 : Int32) (x4 : Int32) : AO l g M_X11_isYear false h 53 [(0, .ref x0), (1, .int x1), (2, .int x2), (3, .int x3), (4, .int x4)] [] h 0 0 (rPi h) (f_X11_isYear_b53 h N K5 x0 x1 x2 x3 x4) := by
  unfold f_X11_isYear_b53
  refine a_iinc (q := 4) (v := (x4 + 1)) (lc2 := [(4, .int (x4 + 1)), (0, .ref x0), (1, .int x1), (2, .int x2), (3, .int x3)]) dX11_isYear_53 rfl rfl (by decide) rfl ?_
  refine a_goto 5 dX11_isYear_56 (by decide) ?_
  refine a_pick (lc2 := [(0, .ref x0), (1, .int x1), (2, .int x2), (3, .int x3), (4, .int (x4 + 1))]) [1, 2, 3, 4, 0] rfl ?_
  exact hK5 x0 x1 x2 x3 (x4 + 1)
set_option maxRecDepth 100000 in
set_option maxHeartbeats 4000000 in
theorem t_X11_isYear_b5_body (h : AH) (N : Nat) (K5 : Nat → Int32 → Int32 → Int32 → Int32 → Option Int32) (hK5 : ∀ (z0 : Nat) (z1 : Int32) (z2 : Int32) (z3 : Int32) (z4 : Int32), AO l g M_X11_isYear false h 5 [(0, .ref z0), (1, .int z1), (2, .int z2), (3, .int z3), (4, .int z4)] [] h 0 0 (rPi h) (K5 z0 z1 z2 z3 z4)) (x0 : Nat) (x1 : Int32) (x2 : Int32) (x3 : Int32) (x4 : Int32) : AO l g M_X11_isYear false h 5 [(0, .ref x0), (1, .int x1), (2, .int x2), (3, .int x3), (4, .int x4)] [] h 0 0 (rPi h) (f_X11_isYear_b5_body h N K5 x0 x1 x2 x3 x4) := by
  unfold f_X11_isYear_b5_body
  refine a_iload dX11_isYear_5 4 rfl ?_
  refine a_aload_n dX11_isYear_7 rfl 0 rfl ?_
  refine a_getr kc12 0 dX11_isYear_8 (by decide) rfl w_fieldLink_RainCover_12 (fun v1 => ?_)
  refine a_cV_Pi (r := v1) (ci := 0) (as := []) (st := [.int x4]) dX11_isYear_11 (c_Jx4a65c_size_8abf5 l g h v1) rfl km_Jx4a65c_size_8abf5 (hm_Jx4a65c_size_8abf5) rfl (by decide) rfl (fun _ ee => g_Jx4a65c_size_8abf5 ee) w_methodLink_RainCover_104 w_instanceMethod_java_util_ArrayList_size___I w_selects_java_util_ArrayList_java_util_ArrayList_size___I_java_util_ArrayList_size___I ⟨⟨by decide, by decide⟩, ⟨by decide, by decide⟩⟩ (Nat.le_of_ble_eq_true rfl) (fun v2 => ?_)
  refine a_icmp_ge 59 dX11_isYear_14 (by decide) (fun c3 => ?_) (fun c3 => ?_)
  · refine a_iload_n dX11_isYear_59 rfl 3 rfl ?_
    exact a_gd (fun c4 => a_zret dX11_isYear_60 rfl c4 rfl (by decide) (by decide))
  · refine a_aload_n dX11_isYear_17 rfl 0 rfl ?_
    refine a_getr kc12 0 dX11_isYear_18 (by decide) rfl w_fieldLink_RainCover_12 (fun v5 => ?_)
    refine a_iload dX11_isYear_21 4 rfl ?_
    refine a_cV_Pr (r := v5) (ci := 0) (as := [.int x4]) (st := []) dX11_isYear_23 (c_Jx4a65c_get_915e3 l g h v5 x4) rfl km_Jx4a65c_get_915e3 (hm_Jx4a65c_get_915e3) rfl (by decide) rfl (fun _ ee => g_Jx4a65c_get_915e3 ee) w_methodLink_RainCover_124 w_instanceMethod_java_util_ArrayList_get__I_Ljava_lang_Object_ w_selects_java_util_ArrayList_java_util_ArrayList_get__I_Ljava_lang_Object__java_util_ArrayList_get__I_Ljava_lang_Object_ ⟨⟨by decide, by decide⟩, ⟨by decide, by decide⟩⟩ (Nat.le_of_ble_eq_true rfl) (fun v6 => ?_)
    refine a_cast kc4 dX11_isYear_26 w_classLink_RainCover_108 ?_
    refine a_iload_n dX11_isYear_29 rfl 2 rfl ?_
    refine a_cV_Pi (r := v6) (ci := 4) (as := [.int x2]) (st := []) dX11_isYear_30 (c_X3_standsIn l g h v6 x2) rfl km_X3_standsIn (hm_X3_standsIn) rfl (by decide) rfl (fun _ ee => g_X3_standsIn ee) w_methodLink_RainCover_309 w_instanceMethod_RainCover_Gauge_standsIn__I_Z w_selects_RainCover_Gauge_RainCover_Gauge_standsIn__I_Z_RainCover_Gauge_standsIn__I_Z ⟨⟨by decide, by decide⟩, ⟨by decide, by decide⟩⟩ (Nat.le_of_ble_eq_true rfl) (fun v7 => ?_)
    refine a_if_ne 39 dX11_isYear_33 (by decide) (fun c8 => ?_) (fun c8 => ?_)
    · refine a_goto 53 dX11_isYear_36 (by decide) ?_
      exact t_X11_isYear_b53 h N K5 hK5 x0 x1 x2 x3 x4
    · refine a_aload_n dX11_isYear_39 rfl 0 rfl ?_
      refine a_iload dX11_isYear_40 4 rfl ?_
      refine a_iload_n dX11_isYear_42 rfl 1 rfl ?_
      refine a_cV_Pi (r := x0) (ci := 12) (as := [.int x4, .int x1]) (st := []) dX11_isYear_43 (c_X11_isKnown l g h N x0 x4 x1) rfl km_X11_isKnown (hm_X11_isKnown) rfl (by decide) rfl (fun _ ee => g_X11_isKnown ee) w_methodLink_RainCover_387 w_instanceMethod_RainCover_isKnown__II_Z w_selects_RainCover_RainCover_isKnown__II_Z_RainCover_isKnown__II_Z ⟨⟨by decide, by decide⟩, ⟨by decide, by decide⟩⟩ (Nat.le_of_ble_eq_true rfl) (fun v9 => ?_)
      refine a_if_ne 51 dX11_isYear_46 (by decide) (fun c10 => ?_) (fun c10 => ?_)
      · refine a_iconst (v := 0) dX11_isYear_49 (by decide) ?_
        exact a_zret dX11_isYear_50 rfl (Or.inl rfl) rfl (by decide) (by decide)
      · refine a_iconst (v := 1) dX11_isYear_51 (by decide) ?_
        refine a_istore_n (lc2 := [(3, .int 1), (0, .ref x0), (1, .int x1), (2, .int x2), (4, .int x4)]) dX11_isYear_52 rfl (by decide) rfl ?_
        refine a_pick (lc2 := [(0, .ref x0), (1, .int x1), (2, .int x2), (3, .int 1), (4, .int x4)]) [1, 2, 3, 0, 4] rfl ?_
        exact t_X11_isYear_b53 h N K5 hK5 x0 x1 x2 1 x4
set_option maxRecDepth 100000 in
set_option maxHeartbeats 4000000 in
theorem t_X11_isYear_b5 (h : AH) (N : Nat) : ∀ (n : Nat) (x0 : Nat) (x1 : Int32) (x2 : Int32) (x3 : Int32) (x4 : Int32) , AO l g M_X11_isYear false h 5 [(0, .ref x0), (1, .int x1), (2, .int x2), (3, .int x3), (4, .int x4)] [] h 0 0 (rPi h) (f_X11_isYear_b5 h N  n x0 x1 x2 x3 x4) := by
  intro n
  induction n with
  | zero => intro x0 x1 x2 x3 x4; exact a_eq rfl a_none
  | succ n ih => intro x0 x1 x2 x3 x4; exact a_eq rfl (t_X11_isYear_b5_body h N  (f_X11_isYear_b5 h N  n) ih x0 x1 x2 x3 x4)
end
set_option maxRecDepth 100000 in
set_option maxHeartbeats 4000000 in
theorem c_X11_isYear (l : Launch) (g : GG) (h : AH) (N : Nat) (p0 : Nat) (p1 : Int32) (p2 : Int32) : CN l g yX11_isYear M_X11_isYear false [.ref p0, .int p1, .int p2] h ((rPi h)) (f_X11_isYear h N p0 p1 p2) := by
  refine CN.of (by decide) rfl (fun hh => by first | rfl | cases hh) (Nat.le_of_ble_eq_true rfl) ?_
  unfold f_X11_isYear
  refine a_gd (fun hkd => ?_)
  refine a_iconst (v := 0) dX11_isYear_0 (by decide) ?_
  refine a_istore_n (lc2 := [(3, .int 0), (0, .ref p0), (1, .int p1), (2, .int p2)]) dX11_isYear_1 rfl (by decide) rfl ?_
  refine a_iconst (v := 0) dX11_isYear_2 (by decide) ?_
  refine a_istore (lc2 := [(4, .int 0), (3, .int 0), (0, .ref p0), (1, .int p1), (2, .int p2)]) dX11_isYear_3 (by decide) rfl ?_
  refine a_pick (lc2 := [(0, .ref p0), (1, .int p1), (2, .int p2), (3, .int 0), (4, .int 0)]) [2, 3, 4, 1, 0] rfl ?_
  exact t_X11_isYear_b5 h N N p0 p1 p2 0 0
theorem dX11_gatherTotals_0 : decode cX11_gatherTotals 0 = .ok (.iconst 0, 1) := by decide +kernel
theorem dX11_gatherTotals_1 : decode cX11_gatherTotals 1 = .ok (.istore_n 2, 1) := by decide +kernel
theorem dX11_gatherTotals_2 : decode cX11_gatherTotals 2 = .ok (.iconst 0, 1) := by decide +kernel
theorem dX11_gatherTotals_3 : decode cX11_gatherTotals 3 = .ok (.istore_n 3, 1) := by decide +kernel
theorem dX11_gatherTotals_4 : decode cX11_gatherTotals 4 = .ok (.iload_n 3, 1) := by decide +kernel
theorem dX11_gatherTotals_5 : decode cX11_gatherTotals 5 = .ok (.bipush 16, 2) := by decide +kernel
theorem dX11_gatherTotals_7 : decode cX11_gatherTotals 7 = .ok (.if_icmp .ge 36, 3) := by decide +kernel
theorem dX11_gatherTotals_10 : decode cX11_gatherTotals 10 = .ok (.aload_n 0, 1) := by decide +kernel
theorem dX11_gatherTotals_11 : decode cX11_gatherTotals 11 = .ok (.iload_n 3, 1) := by decide +kernel
theorem dX11_gatherTotals_12 : decode cX11_gatherTotals 12 = .ok (.iload_n 1, 1) := by decide +kernel
theorem dX11_gatherTotals_13 : decode cX11_gatherTotals 13 = .ok (.invokevirtual 409, 3) := by decide +kernel
theorem dX11_gatherTotals_16 : decode cX11_gatherTotals 16 = .ok (.ifCond .ne 6, 3) := by decide +kernel
theorem dX11_gatherTotals_19 : decode cX11_gatherTotals 19 = .ok (.goto 18, 3) := by decide +kernel
theorem dX11_gatherTotals_22 : decode cX11_gatherTotals 22 = .ok (.aload_n 0, 1) := by decide +kernel
theorem dX11_gatherTotals_23 : decode cX11_gatherTotals 23 = .ok (.getfield 90, 3) := by decide +kernel
theorem dX11_gatherTotals_26 : decode cX11_gatherTotals 26 = .ok (.iload_n 2, 1) := by decide +kernel
theorem dX11_gatherTotals_27 : decode cX11_gatherTotals 27 = .ok (.aload_n 0, 1) := by decide +kernel
theorem dX11_gatherTotals_28 : decode cX11_gatherTotals 28 = .ok (.iload_n 3, 1) := by decide +kernel
theorem dX11_gatherTotals_29 : decode cX11_gatherTotals 29 = .ok (.iload_n 1, 1) := by decide +kernel
theorem dX11_gatherTotals_30 : decode cX11_gatherTotals 30 = .ok (.invokevirtual 397, 3) := by decide +kernel
theorem dX11_gatherTotals_33 : decode cX11_gatherTotals 33 = .ok (.iastore, 1) := by decide +kernel
theorem dX11_gatherTotals_34 : decode cX11_gatherTotals 34 = .ok (.iinc 2 1, 3) := by decide +kernel
theorem dX11_gatherTotals_37 : decode cX11_gatherTotals 37 = .ok (.iinc 3 1, 3) := by decide +kernel
theorem dX11_gatherTotals_40 : decode cX11_gatherTotals 40 = .ok (.goto (-36), 3) := by decide +kernel
theorem dX11_gatherTotals_43 : decode cX11_gatherTotals 43 = .ok (.iload_n 2, 1) := by decide +kernel
theorem dX11_gatherTotals_44 : decode cX11_gatherTotals 44 = .ok (.ireturn, 1) := by decide +kernel
abbrev M_X11_gatherTotals : MI := (RX11, cX11_gatherTotals, 4, (some .int), ({ frames := 7, cells := 0, slots := 0, locals := 175 } : Room), 0, 0, false)
def f_X11_gatherTotals_b37 (N : Nat) (K4 : AH → Nat → Int32 → Int32 → Int32 → Option (Int32 × AH)) (h : AH) (x0 : Nat) (x1 : Int32) (x2 : Int32) (x3 : Int32) : Option (Int32 × AH) := K4 h x0 x1 x2 (x3 + 1)
def f_X11_gatherTotals_b4_body (N : Nat) (K4 : AH → Nat → Int32 → Int32 → Int32 → Option (Int32 × AH)) (h : AH) (x0 : Nat) (x1 : Int32) (x2 : Int32) (x3 : Int32) : Option (Int32 × AH) := (if 16 ≤ x3 then some (x2, h) else (f_X11_isYear h N x0 x3 x1).bind fun v2 => (if v2 = 0 then f_X11_gatherTotals_b37 N K4 h x0 x1 x2 x3 else (xgr h x0 12 18).bind fun v4 => (f_X11_totalOf h N x0 x3 x1).bind fun q5 => (xis q5.2 v4 x2 q5.1).bind fun h6 => f_X11_gatherTotals_b37 N K4 h6 x0 x1 (x2 + 1) x3))
def f_X11_gatherTotals_b4 (N : Nat) : Nat → AH → Nat → Int32 → Int32 → Int32 → Option (Int32 × AH)
  | 0, _, _, _, _, _ => none
  | n + 1, h, x0, x1, x2, x3 => f_X11_gatherTotals_b4_body N  (f_X11_gatherTotals_b4 N  n) h x0 x1 x2 x3
def f_X11_gatherTotals (h0 : AH) (N : Nat) (p0 : Nat) (p1 : Int32) : Option (Int32 × AH) := if kd h0 p0 = 12 + 1 then f_X11_gatherTotals_b4 N N h0 p0 p1 0 0 else none
theorem g_X11_gatherTotals {h0 : AH} {N : Nat} {p0 : Nat} {p1 : Int32} {x : (Int32 × AH)} (e : f_X11_gatherTotals h0 N p0 p1 = some x) : kd h0 p0 = 12 + 1 := by
  unfold f_X11_gatherTotals at e
  by_cases hk : kd h0 p0 = 12 + 1
  · exact hk
  · rw [if_neg hk] at e
    cases e
theorem km_X11_gatherTotals : KM yX11_gatherTotals M_X11_gatherTotals 1 := ⟨in_tb 977 (by decide +kernel) rfl, in_tb 1 (by decide +kernel) rfl, by decide +kernel, rfl, rfl⟩
theorem hm_X11_gatherTotals : M_X11_gatherTotals.2.2.2.2.2.1 = 0 ∧ M_X11_gatherTotals.2.2.2.2.2.2.1 = 0 := ⟨rfl, rfl⟩
section
variable {l : Launch} {g : GG}
set_option maxRecDepth 100000 in
set_option maxHeartbeats 4000000 in
theorem t_X11_gatherTotals_b37 (h0 : AH) (N : Nat) (K4 : AH → Nat → Int32 → Int32 → Int32 → Option (Int32 × AH)) (hK4 : ∀ (z : AH) (z0 : Nat) (z1 : Int32) (z2 : Int32) (z3 : Int32), AO l g M_X11_gatherTotals false h0 4 [(0, .ref z0), (1, .int z1), (2, .int z2), (3, .int z3)] [] z 0 0 rSi (K4 z z0 z1 z2 z3)) (h : AH) (x0 : Nat) (x1 : Int32) (x2 : Int32) (x3 : Int32) : AO l g M_X11_gatherTotals false h0 37 [(0, .ref x0), (1, .int x1), (2, .int x2), (3, .int x3)] [] h 0 0 rSi (f_X11_gatherTotals_b37 N K4 h x0 x1 x2 x3) := by
  unfold f_X11_gatherTotals_b37
  refine a_iinc (q := 3) (v := (x3 + 1)) (lc2 := [(3, .int (x3 + 1)), (0, .ref x0), (1, .int x1), (2, .int x2)]) dX11_gatherTotals_37 rfl rfl (by decide) rfl ?_
  refine a_goto 4 dX11_gatherTotals_40 (by decide) ?_
  refine a_pick (lc2 := [(0, .ref x0), (1, .int x1), (2, .int x2), (3, .int (x3 + 1))]) [1, 2, 3, 0] rfl ?_
  exact hK4 h x0 x1 x2 (x3 + 1)
set_option maxRecDepth 100000 in
set_option maxHeartbeats 4000000 in
theorem t_X11_gatherTotals_b4_body (h0 : AH) (N : Nat) (K4 : AH → Nat → Int32 → Int32 → Int32 → Option (Int32 × AH)) (hK4 : ∀ (z : AH) (z0 : Nat) (z1 : Int32) (z2 : Int32) (z3 : Int32), AO l g M_X11_gatherTotals false h0 4 [(0, .ref z0), (1, .int z1), (2, .int z2), (3, .int z3)] [] z 0 0 rSi (K4 z z0 z1 z2 z3)) (h : AH) (x0 : Nat) (x1 : Int32) (x2 : Int32) (x3 : Int32) : AO l g M_X11_gatherTotals false h0 4 [(0, .ref x0), (1, .int x1), (2, .int x2), (3, .int x3)] [] h 0 0 rSi (f_X11_gatherTotals_b4_body N K4 h x0 x1 x2 x3) := by
  unfold f_X11_gatherTotals_b4_body
  refine a_iload_n dX11_gatherTotals_4 rfl 3 rfl ?_
  refine a_bipush (v := 16) dX11_gatherTotals_5 (by decide) ?_
  refine a_icmp_ge 43 dX11_gatherTotals_7 (by decide) (fun c1 => ?_) (fun c1 => ?_)
  · refine a_iload_n dX11_gatherTotals_43 rfl 2 rfl ?_
    exact a_iret dX11_gatherTotals_44 rfl rfl (by decide) (by decide)
  · refine a_aload_n dX11_gatherTotals_10 rfl 0 rfl ?_
    refine a_iload_n dX11_gatherTotals_11 rfl 3 rfl ?_
    refine a_iload_n dX11_gatherTotals_12 rfl 1 rfl ?_
    refine a_cV_Pi (r := x0) (ci := 12) (as := [.int x3, .int x1]) (st := []) dX11_gatherTotals_13 (c_X11_isYear l g h N x0 x3 x1) rfl km_X11_isYear (hm_X11_isYear) rfl (by decide) rfl (fun _ ee => g_X11_isYear ee) w_methodLink_RainCover_409 w_instanceMethod_RainCover_isYear__II_Z w_selects_RainCover_RainCover_isYear__II_Z_RainCover_isYear__II_Z ⟨⟨by decide, by decide⟩, ⟨by decide, by decide⟩⟩ (Nat.le_of_ble_eq_true rfl) (fun v2 => ?_)
    refine a_if_ne 22 dX11_gatherTotals_16 (by decide) (fun c3 => ?_) (fun c3 => ?_)
    · refine a_goto 37 dX11_gatherTotals_19 (by decide) ?_
      exact t_X11_gatherTotals_b37 h0 N K4 hK4 h x0 x1 x2 x3
    · refine a_aload_n dX11_gatherTotals_22 rfl 0 rfl ?_
      refine a_getr kc12 18 dX11_gatherTotals_23 (by decide) rfl w_fieldLink_RainCover_90 (fun v4 => ?_)
      refine a_iload_n dX11_gatherTotals_26 rfl 2 rfl ?_
      refine a_aload_n dX11_gatherTotals_27 rfl 0 rfl ?_
      refine a_iload_n dX11_gatherTotals_28 rfl 3 rfl ?_
      refine a_iload_n dX11_gatherTotals_29 rfl 1 rfl ?_
      refine a_cV_Si (r := x0) (ci := 12) (as := [.int x3, .int x1]) (st := [.int x2, .ref v4]) dX11_gatherTotals_30 (c_X11_totalOf l g h N x0 x3 x1) rfl km_X11_totalOf (hm_X11_totalOf) rfl (by decide) rfl (fun _ ee => g_X11_totalOf ee) w_methodLink_RainCover_397 w_instanceMethod_RainCover_totalOf__II_I w_selects_RainCover_RainCover_totalOf__II_I_RainCover_totalOf__II_I ⟨⟨by decide, by decide⟩, ⟨by decide, by decide⟩⟩ (Nat.le_of_ble_eq_true rfl) (fun q5 => ?_)
      refine a_iast dX11_gatherTotals_33 (fun h6 => ?_)
      refine a_iinc (q := 2) (v := (x2 + 1)) (lc2 := [(2, .int (x2 + 1)), (0, .ref x0), (1, .int x1), (3, .int x3)]) dX11_gatherTotals_34 rfl rfl (by decide) rfl ?_
      refine a_pick (lc2 := [(0, .ref x0), (1, .int x1), (2, .int (x2 + 1)), (3, .int x3)]) [1, 2, 0, 3] rfl ?_
      exact t_X11_gatherTotals_b37 h0 N K4 hK4 h6 x0 x1 (x2 + 1) x3
set_option maxRecDepth 100000 in
set_option maxHeartbeats 4000000 in
theorem t_X11_gatherTotals_b4 (h0 : AH) (N : Nat) : ∀ (n : Nat) (h : AH) (x0 : Nat) (x1 : Int32) (x2 : Int32) (x3 : Int32) , AO l g M_X11_gatherTotals false h0 4 [(0, .ref x0), (1, .int x1), (2, .int x2), (3, .int x3)] [] h 0 0 rSi (f_X11_gatherTotals_b4 N  n h x0 x1 x2 x3) := by
  intro n
  induction n with
  | zero => intro h x0 x1 x2 x3; exact a_eq rfl a_none
  | succ n ih => intro h x0 x1 x2 x3; exact a_eq rfl (t_X11_gatherTotals_b4_body h0 N  (f_X11_gatherTotals_b4 N  n) ih h x0 x1 x2 x3)
end
set_option maxRecDepth 100000 in
set_option maxHeartbeats 4000000 in
theorem c_X11_gatherTotals (l : Launch) (g : GG) (h0 : AH) (N : Nat) (p0 : Nat) (p1 : Int32) : CN l g yX11_gatherTotals M_X11_gatherTotals false [.ref p0, .int p1] h0 rSi (f_X11_gatherTotals h0 N p0 p1) := by
  refine CN.of (by decide) rfl (fun hh => by first | rfl | cases hh) (Nat.le_of_ble_eq_true rfl) ?_
  unfold f_X11_gatherTotals
  refine a_gd (fun hkd => ?_)
  refine a_iconst (v := 0) dX11_gatherTotals_0 (by decide) ?_
  refine a_istore_n (lc2 := [(2, .int 0), (0, .ref p0), (1, .int p1)]) dX11_gatherTotals_1 rfl (by decide) rfl ?_
  refine a_iconst (v := 0) dX11_gatherTotals_2 (by decide) ?_
  refine a_istore_n (lc2 := [(3, .int 0), (2, .int 0), (0, .ref p0), (1, .int p1)]) dX11_gatherTotals_3 rfl (by decide) rfl ?_
  refine a_pick (lc2 := [(0, .ref p0), (1, .int p1), (2, .int 0), (3, .int 0)]) [2, 3, 1, 0] rfl ?_
  exact t_X11_gatherTotals_b4 h0 N N h0 p0 p1 0 0
theorem dX11_rowLasts_0 : decode cX11_rowLasts 0 = .ok (.iconst 1, 1) := by decide +kernel
theorem dX11_rowLasts_1 : decode cX11_rowLasts 1 = .ok (.istore 6, 2) := by decide +kernel
theorem dX11_rowLasts_3 : decode cX11_rowLasts 3 = .ok (.iconst 0, 1) := by decide +kernel
theorem dX11_rowLasts_4 : decode cX11_rowLasts 4 = .ok (.istore 7, 2) := by decide +kernel
theorem dX11_rowLasts_6 : decode cX11_rowLasts 6 = .ok (.iload 7, 2) := by decide +kernel
theorem dX11_rowLasts_8 : decode cX11_rowLasts 8 = .ok (.iload 4, 2) := by decide +kernel
theorem dX11_rowLasts_10 : decode cX11_rowLasts 10 = .ok (.if_icmp .ge 55, 3) := by decide +kernel
theorem dX11_rowLasts_13 : decode cX11_rowLasts 13 = .ok (.aload_n 0, 1) := by decide +kernel
theorem dX11_rowLasts_14 : decode cX11_rowLasts 14 = .ok (.aload_n 0, 1) := by decide +kernel
theorem dX11_rowLasts_15 : decode cX11_rowLasts 15 = .ok (.getfield 77, 3) := by decide +kernel
theorem dX11_rowLasts_18 : decode cX11_rowLasts 18 = .ok (.ldc_w 408, 3) := by decide +kernel
theorem dX11_rowLasts_21 : decode cX11_rowLasts 21 = .ok (.imul, 1) := by decide +kernel
theorem dX11_rowLasts_22 : decode cX11_rowLasts 22 = .ok (.sipush 12345, 3) := by decide +kernel
theorem dX11_rowLasts_25 : decode cX11_rowLasts 25 = .ok (.iadd, 1) := by decide +kernel
theorem dX11_rowLasts_26 : decode cX11_rowLasts 26 = .ok (.putfield 77, 3) := by decide +kernel
theorem dX11_rowLasts_29 : decode cX11_rowLasts 29 = .ok (.lload_n 1, 1) := by decide +kernel
theorem dX11_rowLasts_30 : decode cX11_rowLasts 30 = .ok (.iload_n 3, 1) := by decide +kernel
theorem dX11_rowLasts_31 : decode cX11_rowLasts 31 = .ok (.aload_n 0, 1) := by decide +kernel
theorem dX11_rowLasts_32 : decode cX11_rowLasts 32 = .ok (.getfield 90, 3) := by decide +kernel
theorem dX11_rowLasts_35 : decode cX11_rowLasts 35 = .ok (.aload_n 0, 1) := by decide +kernel
theorem dX11_rowLasts_36 : decode cX11_rowLasts 36 = .ok (.getfield 77, 3) := by decide +kernel
theorem dX11_rowLasts_39 : decode cX11_rowLasts 39 = .ok (.bipush 8, 2) := by decide +kernel
theorem dX11_rowLasts_41 : decode cX11_rowLasts 41 = .ok (.iushr, 1) := by decide +kernel
theorem dX11_rowLasts_42 : decode cX11_rowLasts 42 = .ok (.iload 5, 2) := by decide +kernel
theorem dX11_rowLasts_44 : decode cX11_rowLasts 44 = .ok (.irem, 1) := by decide +kernel
theorem dX11_rowLasts_45 : decode cX11_rowLasts 45 = .ok (.iaload, 1) := by decide +kernel
theorem dX11_rowLasts_46 : decode cX11_rowLasts 46 = .ok (.isub, 1) := by decide +kernel
theorem dX11_rowLasts_47 : decode cX11_rowLasts 47 = .ok (.i2l, 1) := by decide +kernel
theorem dX11_rowLasts_48 : decode cX11_rowLasts 48 = .ok (.ladd, 1) := by decide +kernel
theorem dX11_rowLasts_49 : decode cX11_rowLasts 49 = .ok (.lstore_n 1, 1) := by decide +kernel
theorem dX11_rowLasts_50 : decode cX11_rowLasts 50 = .ok (.lload_n 1, 1) := by decide +kernel
theorem dX11_rowLasts_51 : decode cX11_rowLasts 51 = .ok (.lconst 0, 1) := by decide +kernel
theorem dX11_rowLasts_52 : decode cX11_rowLasts 52 = .ok (.lcmp, 1) := by decide +kernel
theorem dX11_rowLasts_53 : decode cX11_rowLasts 53 = .ok (.ifCond .ge 6, 3) := by decide +kernel
theorem dX11_rowLasts_56 : decode cX11_rowLasts 56 = .ok (.iconst 0, 1) := by decide +kernel
theorem dX11_rowLasts_57 : decode cX11_rowLasts 57 = .ok (.istore 6, 2) := by decide +kernel
theorem dX11_rowLasts_59 : decode cX11_rowLasts 59 = .ok (.iinc 7 1, 3) := by decide +kernel
theorem dX11_rowLasts_62 : decode cX11_rowLasts 62 = .ok (.goto (-56), 3) := by decide +kernel
theorem dX11_rowLasts_65 : decode cX11_rowLasts 65 = .ok (.iload 6, 2) := by decide +kernel
theorem dX11_rowLasts_67 : decode cX11_rowLasts 67 = .ok (.ireturn, 1) := by decide +kernel
abbrev M_X11_rowLasts : MI := (RX11, cX11_rowLasts, 8, (some .boolean), ({ frames := 0, cells := 0, slots := 0, locals := 0 } : Room), 0, 0, false)
def f_X11_rowLasts_b59 (N : Nat) (K6 : AH → Nat → Int64 → Int32 → Int32 → Int32 → Int32 → Int32 → Option (Int32 × AH)) (h : AH) (x0 : Nat) (x1 : Int64) (x3 : Int32) (x4 : Int32) (x5 : Int32) (x6 : Int32) (x7 : Int32) : Option (Int32 × AH) := K6 h x0 x1 x3 x4 x5 x6 (x7 + 1)
def f_X11_rowLasts_b6_body (N : Nat) (K6 : AH → Nat → Int64 → Int32 → Int32 → Int32 → Int32 → Int32 → Option (Int32 × AH)) (h : AH) (x0 : Nat) (x1 : Int64) (x3 : Int32) (x4 : Int32) (x5 : Int32) (x6 : Int32) (x7 : Int32) : Option (Int32 × AH) := (if x4 ≤ x7 then (if x6 = 0 ∨ x6 = 1 then some (x6, h) else none) else (xgi h x0 12 14).bind fun v3 => (xpi h x0 12 14 ((v3 * 1103515245) + 12345)).bind fun h4 => (xgr h4 x0 12 18).bind fun v5 => (xgi h4 x0 12 14).bind fun v6 => (if x5 = 0 then none else (xia h4 v5 ((((v6 : Int32).toUInt32 >>> ((8 : Int32).toUInt32 &&& Int32.toUInt32 31)).toInt32) - (((v6 : Int32).toUInt32 >>> ((8 : Int32).toUInt32 &&& Int32.toUInt32 31)).toInt32) / x5 * x5)).bind fun v8 => (if 0 ≤ (lg_cmp (x1 + ((x3 - v8) : Int32).toInt64) 0) then f_X11_rowLasts_b59 N K6 h4 x0 (x1 + ((x3 - v8) : Int32).toInt64) x3 x4 x5 x6 x7 else f_X11_rowLasts_b59 N K6 h4 x0 (x1 + ((x3 - v8) : Int32).toInt64) x3 x4 x5 0 x7)))
def f_X11_rowLasts_b6 (N : Nat) : Nat → AH → Nat → Int64 → Int32 → Int32 → Int32 → Int32 → Int32 → Option (Int32 × AH)
  | 0, _, _, _, _, _, _, _, _ => none
  | n + 1, h, x0, x1, x3, x4, x5, x6, x7 => f_X11_rowLasts_b6_body N  (f_X11_rowLasts_b6 N  n) h x0 x1 x3 x4 x5 x6 x7
def f_X11_rowLasts (h0 : AH) (N : Nat) (p0 : Nat) (p1 : Int64) (p2 : Int32) (p3 : Int32) (p4 : Int32) : Option (Int32 × AH) := if kd h0 p0 = 12 + 1 then f_X11_rowLasts_b6 N N h0 p0 p1 p2 p3 p4 1 0 else none
theorem g_X11_rowLasts {h0 : AH} {N : Nat} {p0 : Nat} {p1 : Int64} {p2 : Int32} {p3 : Int32} {p4 : Int32} {x : (Int32 × AH)} (e : f_X11_rowLasts h0 N p0 p1 p2 p3 p4 = some x) : kd h0 p0 = 12 + 1 := by
  unfold f_X11_rowLasts at e
  by_cases hk : kd h0 p0 = 12 + 1
  · exact hk
  · rw [if_neg hk] at e
    cases e
theorem km_X11_rowLasts : KM yX11_rowLasts M_X11_rowLasts 4 := ⟨in_tb 985 (by decide +kernel) rfl, in_tb 1 (by decide +kernel) rfl, by decide +kernel, rfl, rfl⟩
theorem hm_X11_rowLasts : M_X11_rowLasts.2.2.2.2.2.1 = 0 ∧ M_X11_rowLasts.2.2.2.2.2.2.1 = 0 := ⟨rfl, rfl⟩
section
variable {l : Launch} {g : GG}
set_option maxRecDepth 100000 in
set_option maxHeartbeats 4000000 in
theorem t_X11_rowLasts_b59 (h0 : AH) (N : Nat) (K6 : AH → Nat → Int64 → Int32 → Int32 → Int32 → Int32 → Int32 → Option (Int32 × AH)) (hK6 : ∀ (z : AH) (z0 : Nat) (z1 : Int64) (z2 : Int32) (z3 : Int32) (z4 : Int32) (z5 : Int32) (z6 : Int32), AO l g M_X11_rowLasts false h0 6 [(0, .ref z0), (1, .long z1), (3, .int z2), (4, .int z3), (5, .int z4), (6, .int z5), (7, .int z6)] [] z 0 0 rSi (K6 z z0 z1 z2 z3 z4 z5 z6)) (h : AH) (x0 : Nat) (x1 : Int64) (x3 : Int32) (x4 : Int32) (x5 : Int32) (x6 : Int32) (x7 : Int32) : AO l g M_X11_rowLasts false h0 59 [(0, .ref x0), (1, .long x1), (3, .int x3), (4, .int x4), (5, .int x5), (6, .int x6), (7, .int x7)] [] h 0 0 rSi (f_X11_rowLasts_b59 N K6 h x0 x1 x3 x4 x5 x6 x7) := by
  unfold f_X11_rowLasts_b59
  refine a_iinc (q := 6) (v := (x7 + 1)) (lc2 := [(7, .int (x7 + 1)), (0, .ref x0), (1, .long x1), (3, .int x3), (4, .int x4), (5, .int x5), (6, .int x6)]) dX11_rowLasts_59 rfl rfl (by decide) rfl ?_
  refine a_goto 6 dX11_rowLasts_62 (by decide) ?_
  refine a_pick (lc2 := [(0, .ref x0), (1, .long x1), (3, .int x3), (4, .int x4), (5, .int x5), (6, .int x6), (7, .int (x7 + 1))]) [1, 2, 3, 4, 5, 6, 0] rfl ?_
  exact hK6 h x0 x1 x3 x4 x5 x6 (x7 + 1)
set_option maxRecDepth 100000 in
set_option maxHeartbeats 4000000 in
theorem t_X11_rowLasts_b6_body (h0 : AH) (N : Nat) (K6 : AH → Nat → Int64 → Int32 → Int32 → Int32 → Int32 → Int32 → Option (Int32 × AH)) (hK6 : ∀ (z : AH) (z0 : Nat) (z1 : Int64) (z2 : Int32) (z3 : Int32) (z4 : Int32) (z5 : Int32) (z6 : Int32), AO l g M_X11_rowLasts false h0 6 [(0, .ref z0), (1, .long z1), (3, .int z2), (4, .int z3), (5, .int z4), (6, .int z5), (7, .int z6)] [] z 0 0 rSi (K6 z z0 z1 z2 z3 z4 z5 z6)) (h : AH) (x0 : Nat) (x1 : Int64) (x3 : Int32) (x4 : Int32) (x5 : Int32) (x6 : Int32) (x7 : Int32) : AO l g M_X11_rowLasts false h0 6 [(0, .ref x0), (1, .long x1), (3, .int x3), (4, .int x4), (5, .int x5), (6, .int x6), (7, .int x7)] [] h 0 0 rSi (f_X11_rowLasts_b6_body N K6 h x0 x1 x3 x4 x5 x6 x7) := by
  unfold f_X11_rowLasts_b6_body
  refine a_iload dX11_rowLasts_6 6 rfl ?_
  refine a_iload dX11_rowLasts_8 3 rfl ?_
  refine a_icmp_ge 65 dX11_rowLasts_10 (by decide) (fun c1 => ?_) (fun c1 => ?_)
  · refine a_iload dX11_rowLasts_65 5 rfl ?_
    exact a_gd (fun c2 => a_zret dX11_rowLasts_67 rfl c2 rfl (by decide) (by decide))
  · refine a_aload_n dX11_rowLasts_13 rfl 0 rfl ?_
    refine a_aload_n dX11_rowLasts_14 rfl 0 rfl ?_
    refine a_geti kc12 14 dX11_rowLasts_15 (by decide) rfl w_fieldLink_RainCover_77 (fun v3 => ?_)
    refine a_ldcw (v := 1103515245) dX11_rowLasts_18 w_constant_RainCover_408 ?_
    refine a_imul dX11_rowLasts_21 ?_
    refine a_sipush (v := 12345) dX11_rowLasts_22 (by decide) ?_
    refine a_iadd dX11_rowLasts_25 ?_
    refine a_puti kc12 14 dX11_rowLasts_26 (by decide) rfl w_fieldLink_RainCover_77 rfl rfl (fun h4 => ?_)
    refine a_lload_n dX11_rowLasts_29 rfl 1 rfl ?_
    refine a_iload_n dX11_rowLasts_30 rfl 2 rfl ?_
    refine a_aload_n dX11_rowLasts_31 rfl 0 rfl ?_
    refine a_getr kc12 18 dX11_rowLasts_32 (by decide) rfl w_fieldLink_RainCover_90 (fun v5 => ?_)
    refine a_aload_n dX11_rowLasts_35 rfl 0 rfl ?_
    refine a_geti kc12 14 dX11_rowLasts_36 (by decide) rfl w_fieldLink_RainCover_77 (fun v6 => ?_)
    refine a_bipush (v := 8) dX11_rowLasts_39 (by decide) ?_
    refine a_iushr dX11_rowLasts_41 ?_
    refine a_iload dX11_rowLasts_42 4 rfl ?_
    refine a_irem dX11_rowLasts_44 (fun c7 => ?_)
    refine a_iald dX11_rowLasts_45 (fun v8 => ?_)
    refine a_isub dX11_rowLasts_46 ?_
    refine a_i2l dX11_rowLasts_47 ?_
    refine a_ladd dX11_rowLasts_48 ?_
    refine a_lstore_n (lc2 := [(1, .long (x1 + ((x3 - v8) : Int32).toInt64)), (0, .ref x0), (3, .int x3), (4, .int x4), (5, .int x5), (6, .int x6), (7, .int x7)]) dX11_rowLasts_49 rfl (by decide) rfl ?_
    refine a_lload_n dX11_rowLasts_50 rfl 0 rfl ?_
    refine a_lconst (v := 0) dX11_rowLasts_51 (by decide) ?_
    refine a_lcmp dX11_rowLasts_52 ?_
    refine a_if_ge 59 dX11_rowLasts_53 (by decide) (fun c9 => ?_) (fun c9 => ?_)
    · refine a_pick (lc2 := [(0, .ref x0), (1, .long (x1 + ((x3 - v8) : Int32).toInt64)), (3, .int x3), (4, .int x4), (5, .int x5), (6, .int x6), (7, .int x7)]) [1, 0, 2, 3, 4, 5, 6] rfl ?_
      exact t_X11_rowLasts_b59 h0 N K6 hK6 h4 x0 (x1 + ((x3 - v8) : Int32).toInt64) x3 x4 x5 x6 x7
    · refine a_iconst (v := 0) dX11_rowLasts_56 (by decide) ?_
      refine a_istore (lc2 := [(6, .int 0), (1, .long (x1 + ((x3 - v8) : Int32).toInt64)), (0, .ref x0), (3, .int x3), (4, .int x4), (5, .int x5), (7, .int x7)]) dX11_rowLasts_57 (by decide) rfl ?_
      refine a_pick (lc2 := [(0, .ref x0), (1, .long (x1 + ((x3 - v8) : Int32).toInt64)), (3, .int x3), (4, .int x4), (5, .int x5), (6, .int 0), (7, .int x7)]) [2, 1, 3, 4, 5, 0, 6] rfl ?_
      exact t_X11_rowLasts_b59 h0 N K6 hK6 h4 x0 (x1 + ((x3 - v8) : Int32).toInt64) x3 x4 x5 0 x7
set_option maxRecDepth 100000 in
set_option maxHeartbeats 4000000 in
theorem t_X11_rowLasts_b6 (h0 : AH) (N : Nat) : ∀ (n : Nat) (h : AH) (x0 : Nat) (x1 : Int64) (x3 : Int32) (x4 : Int32) (x5 : Int32) (x6 : Int32) (x7 : Int32) , AO l g M_X11_rowLasts false h0 6 [(0, .ref x0), (1, .long x1), (3, .int x3), (4, .int x4), (5, .int x5), (6, .int x6), (7, .int x7)] [] h 0 0 rSi (f_X11_rowLasts_b6 N  n h x0 x1 x3 x4 x5 x6 x7) := by
  intro n
  induction n with
  | zero => intro h x0 x1 x3 x4 x5 x6 x7; exact a_eq rfl a_none
  | succ n ih => intro h x0 x1 x3 x4 x5 x6 x7; exact a_eq rfl (t_X11_rowLasts_b6_body h0 N  (f_X11_rowLasts_b6 N  n) ih h x0 x1 x3 x4 x5 x6 x7)
end
set_option maxRecDepth 100000 in
set_option maxHeartbeats 4000000 in
theorem c_X11_rowLasts (l : Launch) (g : GG) (h0 : AH) (N : Nat) (p0 : Nat) (p1 : Int64) (p2 : Int32) (p3 : Int32) (p4 : Int32) : CN l g yX11_rowLasts M_X11_rowLasts false [.ref p0, .long p1, .int p2, .int p3, .int p4] h0 rSi (f_X11_rowLasts h0 N p0 p1 p2 p3 p4) := by
  refine CN.of (by decide) rfl (fun hh => by first | rfl | cases hh) (Nat.le_of_ble_eq_true rfl) ?_
  unfold f_X11_rowLasts
  refine a_gd (fun hkd => ?_)
  refine a_iconst (v := 1) dX11_rowLasts_0 (by decide) ?_
  refine a_istore (lc2 := [(6, .int 1), (0, .ref p0), (1, .long p1), (3, .int p2), (4, .int p3), (5, .int p4)]) dX11_rowLasts_1 (by decide) rfl ?_
  refine a_iconst (v := 0) dX11_rowLasts_3 (by decide) ?_
  refine a_istore (lc2 := [(7, .int 0), (6, .int 1), (0, .ref p0), (1, .long p1), (3, .int p2), (4, .int p3), (5, .int p4)]) dX11_rowLasts_4 (by decide) rfl ?_
  refine a_pick (lc2 := [(0, .ref p0), (1, .long p1), (3, .int p2), (4, .int p3), (5, .int p4), (6, .int 1), (7, .int 0)]) [2, 3, 4, 5, 6, 1, 0] rfl ?_
  exact t_X11_rowLasts_b6 h0 N N h0 p0 p1 p2 p3 p4 1 0
theorem dX11_lasts_0 : decode cX11_lasts 0 = .ok (.iload_n 2, 1) := by decide +kernel
theorem dX11_lasts_1 : decode cX11_lasts 1 = .ok (.invokestatic 100, 3) := by decide +kernel
theorem dX11_lasts_4 : decode cX11_lasts 4 = .ok (.ifCond .ne 5, 3) := by decide +kernel
theorem dX11_lasts_7 : decode cX11_lasts 7 = .ok (.iconst (-1), 1) := by decide +kernel
theorem dX11_lasts_8 : decode cX11_lasts 8 = .ok (.ireturn, 1) := by decide +kernel
theorem dX11_lasts_9 : decode cX11_lasts 9 = .ok (.iload_n 1, 1) := by decide +kernel
theorem dX11_lasts_10 : decode cX11_lasts 10 = .ok (.iconst 0, 1) := by decide +kernel
theorem dX11_lasts_11 : decode cX11_lasts 11 = .ok (.ldc_w 400, 3) := by decide +kernel
theorem dX11_lasts_14 : decode cX11_lasts 14 = .ok (.invokestatic 120, 3) := by decide +kernel
theorem dX11_lasts_17 : decode cX11_lasts 17 = .ok (.ifCond .eq 24, 3) := by decide +kernel
theorem dX11_lasts_20 : decode cX11_lasts 20 = .ok (.iload_n 3, 1) := by decide +kernel
theorem dX11_lasts_21 : decode cX11_lasts 21 = .ok (.iconst 1, 1) := by decide +kernel
theorem dX11_lasts_22 : decode cX11_lasts 22 = .ok (.bipush 40, 2) := by decide +kernel
theorem dX11_lasts_24 : decode cX11_lasts 24 = .ok (.invokestatic 120, 3) := by decide +kernel
theorem dX11_lasts_27 : decode cX11_lasts 27 = .ok (.ifCond .eq 14, 3) := by decide +kernel
theorem dX11_lasts_30 : decode cX11_lasts 30 = .ok (.iload 4, 2) := by decide +kernel
theorem dX11_lasts_32 : decode cX11_lasts 32 = .ok (.iconst 1, 1) := by decide +kernel
theorem dX11_lasts_33 : decode cX11_lasts 33 = .ok (.bipush 40, 2) := by decide +kernel
theorem dX11_lasts_35 : decode cX11_lasts 35 = .ok (.invokestatic 120, 3) := by decide +kernel
theorem dX11_lasts_38 : decode cX11_lasts 38 = .ok (.ifCond .ne 6, 3) := by decide +kernel
theorem dX11_lasts_41 : decode cX11_lasts 41 = .ok (.bipush (-2), 2) := by decide +kernel
theorem dX11_lasts_43 : decode cX11_lasts 43 = .ok (.ireturn, 1) := by decide +kernel
theorem dX11_lasts_44 : decode cX11_lasts 44 = .ok (.aload_n 0, 1) := by decide +kernel
theorem dX11_lasts_45 : decode cX11_lasts 45 = .ok (.iload_n 2, 1) := by decide +kernel
theorem dX11_lasts_46 : decode cX11_lasts 46 = .ok (.invokevirtual 394, 3) := by decide +kernel
theorem dX11_lasts_49 : decode cX11_lasts 49 = .ok (.istore 5, 2) := by decide +kernel
theorem dX11_lasts_51 : decode cX11_lasts 51 = .ok (.aload_n 0, 1) := by decide +kernel
theorem dX11_lasts_52 : decode cX11_lasts 52 = .ok (.iload_n 2, 1) := by decide +kernel
theorem dX11_lasts_53 : decode cX11_lasts 53 = .ok (.invokevirtual 401, 3) := by decide +kernel
theorem dX11_lasts_56 : decode cX11_lasts 56 = .ok (.istore 6, 2) := by decide +kernel
theorem dX11_lasts_58 : decode cX11_lasts 58 = .ok (.iload 6, 2) := by decide +kernel
theorem dX11_lasts_60 : decode cX11_lasts 60 = .ok (.ifCond .ne 6, 3) := by decide +kernel
theorem dX11_lasts_63 : decode cX11_lasts 63 = .ok (.bipush (-3), 2) := by decide +kernel
theorem dX11_lasts_65 : decode cX11_lasts 65 = .ok (.ireturn, 1) := by decide +kernel
theorem dX11_lasts_66 : decode cX11_lasts 66 = .ok (.iconst 0, 1) := by decide +kernel
theorem dX11_lasts_67 : decode cX11_lasts 67 = .ok (.istore 7, 2) := by decide +kernel
theorem dX11_lasts_69 : decode cX11_lasts 69 = .ok (.iconst 0, 1) := by decide +kernel
theorem dX11_lasts_70 : decode cX11_lasts 70 = .ok (.istore 8, 2) := by decide +kernel
theorem dX11_lasts_72 : decode cX11_lasts 72 = .ok (.iload 8, 2) := by decide +kernel
theorem dX11_lasts_74 : decode cX11_lasts 74 = .ok (.iload 4, 2) := by decide +kernel
theorem dX11_lasts_76 : decode cX11_lasts 76 = .ok (.if_icmp .ge 26, 3) := by decide +kernel
theorem dX11_lasts_79 : decode cX11_lasts 79 = .ok (.aload_n 0, 1) := by decide +kernel
theorem dX11_lasts_80 : decode cX11_lasts 80 = .ok (.iload_n 1, 1) := by decide +kernel
theorem dX11_lasts_81 : decode cX11_lasts 81 = .ok (.i2l, 1) := by decide +kernel
theorem dX11_lasts_82 : decode cX11_lasts 82 = .ok (.iload 5, 2) := by decide +kernel
theorem dX11_lasts_84 : decode cX11_lasts 84 = .ok (.iload_n 3, 1) := by decide +kernel
theorem dX11_lasts_85 : decode cX11_lasts 85 = .ok (.iload 6, 2) := by decide +kernel
theorem dX11_lasts_87 : decode cX11_lasts 87 = .ok (.invokevirtual 404, 3) := by decide +kernel
theorem dX11_lasts_90 : decode cX11_lasts 90 = .ok (.ifCond .eq 6, 3) := by decide +kernel
theorem dX11_lasts_93 : decode cX11_lasts 93 = .ok (.iinc 7 1, 3) := by decide +kernel
theorem dX11_lasts_96 : decode cX11_lasts 96 = .ok (.iinc 8 1, 3) := by decide +kernel
theorem dX11_lasts_99 : decode cX11_lasts 99 = .ok (.goto (-27), 3) := by decide +kernel
theorem dX11_lasts_102 : decode cX11_lasts 102 = .ok (.iload 7, 2) := by decide +kernel
theorem dX11_lasts_104 : decode cX11_lasts 104 = .ok (.ireturn, 1) := by decide +kernel
abbrev M_X11_lasts : MI := (RX11, cX11_lasts, 9, (some .int), ({ frames := 9, cells := 0, slots := 0, locals := 225 } : Room), 0, 0, false)
def f_X11_lasts_b96 (N : Nat) (K72 : AH → Nat → Int32 → Int32 → Int32 → Int32 → Int32 → Int32 → Int32 → Option (Int32 × AH)) (h : AH) (x0 : Nat) (x1 : Int32) (x3 : Int32) (x4 : Int32) (x5 : Int32) (x6 : Int32) (x7 : Int32) (x8 : Int32) : Option (Int32 × AH) := K72 h x0 x1 x3 x4 x5 x6 x7 (x8 + 1)
def f_X11_lasts_b72_body (N : Nat) (K72 : AH → Nat → Int32 → Int32 → Int32 → Int32 → Int32 → Int32 → Int32 → Option (Int32 × AH)) (h : AH) (x0 : Nat) (x1 : Int32) (x3 : Int32) (x4 : Int32) (x5 : Int32) (x6 : Int32) (x7 : Int32) (x8 : Int32) : Option (Int32 × AH) := (if x4 ≤ x8 then some (x7, h) else (f_X11_rowLasts h N x0 (x1 : Int32).toInt64 x5 x3 x6).bind fun q13 => (if q13.1 = 0 then f_X11_lasts_b96 N K72 q13.2 x0 x1 x3 x4 x5 x6 x7 x8 else f_X11_lasts_b96 N K72 q13.2 x0 x1 x3 x4 x5 x6 (x7 + 1) x8))
def f_X11_lasts_b72 (N : Nat) : Nat → AH → Nat → Int32 → Int32 → Int32 → Int32 → Int32 → Int32 → Int32 → Option (Int32 × AH)
  | 0, _, _, _, _, _, _, _, _, _ => none
  | n + 1, h, x0, x1, x3, x4, x5, x6, x7, x8 => f_X11_lasts_b72_body N  (f_X11_lasts_b72 N  n) h x0 x1 x3 x4 x5 x6 x7 x8
def f_X11_lasts (h0 : AH) (N : Nat) (p0 : Nat) (p1 : Int32) (p2 : Int32) (p3 : Int32) (p4 : Int32) : Option (Int32 × AH) := if kd h0 p0 = 12 + 1 then (f_X11_isSeason h0 p2).bind fun v1 => (if v1 = 0 then some ((-1), h0) else (f_X11_within h0 p1 0 2000000000).bind fun v3 => (if v3 = 0 then some ((-2), h0) else (f_X11_within h0 p3 1 40).bind fun v5 => (if v5 = 0 then some ((-2), h0) else (f_X11_within h0 p4 1 40).bind fun v7 => (if v7 = 0 then some ((-2), h0) else (f_X11_incomeIn h0 N p0 p2).bind fun q9 => (f_X11_gatherTotals q9.2 N p0 p2).bind fun q10 => (if q10.1 = 0 then some ((-3), q10.2) else f_X11_lasts_b72 N N q10.2 p0 p1 p3 p4 q9.1 q10.1 0 0))))) else none
theorem g_X11_lasts {h0 : AH} {N : Nat} {p0 : Nat} {p1 : Int32} {p2 : Int32} {p3 : Int32} {p4 : Int32} {x : (Int32 × AH)} (e : f_X11_lasts h0 N p0 p1 p2 p3 p4 = some x) : kd h0 p0 = 12 + 1 := by
  unfold f_X11_lasts at e
  by_cases hk : kd h0 p0 = 12 + 1
  · exact hk
  · rw [if_neg hk] at e
    cases e
theorem km_X11_lasts : KM yX11_lasts M_X11_lasts 4 := ⟨in_tb 973 (by decide +kernel) rfl, in_tb 1 (by decide +kernel) rfl, by decide +kernel, rfl, rfl⟩
theorem hm_X11_lasts : M_X11_lasts.2.2.2.2.2.1 = 0 ∧ M_X11_lasts.2.2.2.2.2.2.1 = 0 := ⟨rfl, rfl⟩
section
variable {l : Launch} {g : GG}
set_option maxRecDepth 100000 in
set_option maxHeartbeats 4000000 in
theorem t_X11_lasts_b96 (h0 : AH) (N : Nat) (K72 : AH → Nat → Int32 → Int32 → Int32 → Int32 → Int32 → Int32 → Int32 → Option (Int32 × AH)) (hK72 : ∀ (z : AH) (z0 : Nat) (z1 : Int32) (z2 : Int32) (z3 : Int32) (z4 : Int32) (z5 : Int32) (z6 : Int32) (z7 : Int32), AO l g M_X11_lasts false h0 72 [(0, .ref z0), (1, .int z1), (3, .int z2), (4, .int z3), (5, .int z4), (6, .int z5), (7, .int z6), (8, .int z7)] [] z 0 0 rSi (K72 z z0 z1 z2 z3 z4 z5 z6 z7)) (h : AH) (x0 : Nat) (x1 : Int32) (x3 : Int32) (x4 : Int32) (x5 : Int32) (x6 : Int32) (x7 : Int32) (x8 : Int32) : AO l g M_X11_lasts false h0 96 [(0, .ref x0), (1, .int x1), (3, .int x3), (4, .int x4), (5, .int x5), (6, .int x6), (7, .int x7), (8, .int x8)] [] h 0 0 rSi (f_X11_lasts_b96 N K72 h x0 x1 x3 x4 x5 x6 x7 x8) := by
  unfold f_X11_lasts_b96
  refine a_iinc (q := 7) (v := (x8 + 1)) (lc2 := [(8, .int (x8 + 1)), (0, .ref x0), (1, .int x1), (3, .int x3), (4, .int x4), (5, .int x5), (6, .int x6), (7, .int x7)]) dX11_lasts_96 rfl rfl (by decide) rfl ?_
  refine a_goto 72 dX11_lasts_99 (by decide) ?_
  refine a_pick (lc2 := [(0, .ref x0), (1, .int x1), (3, .int x3), (4, .int x4), (5, .int x5), (6, .int x6), (7, .int x7), (8, .int (x8 + 1))]) [1, 2, 3, 4, 5, 6, 7, 0] rfl ?_
  exact hK72 h x0 x1 x3 x4 x5 x6 x7 (x8 + 1)
set_option maxRecDepth 100000 in
set_option maxHeartbeats 4000000 in
theorem t_X11_lasts_b72_body (h0 : AH) (N : Nat) (K72 : AH → Nat → Int32 → Int32 → Int32 → Int32 → Int32 → Int32 → Int32 → Option (Int32 × AH)) (hK72 : ∀ (z : AH) (z0 : Nat) (z1 : Int32) (z2 : Int32) (z3 : Int32) (z4 : Int32) (z5 : Int32) (z6 : Int32) (z7 : Int32), AO l g M_X11_lasts false h0 72 [(0, .ref z0), (1, .int z1), (3, .int z2), (4, .int z3), (5, .int z4), (6, .int z5), (7, .int z6), (8, .int z7)] [] z 0 0 rSi (K72 z z0 z1 z2 z3 z4 z5 z6 z7)) (h : AH) (x0 : Nat) (x1 : Int32) (x3 : Int32) (x4 : Int32) (x5 : Int32) (x6 : Int32) (x7 : Int32) (x8 : Int32) : AO l g M_X11_lasts false h0 72 [(0, .ref x0), (1, .int x1), (3, .int x3), (4, .int x4), (5, .int x5), (6, .int x6), (7, .int x7), (8, .int x8)] [] h 0 0 rSi (f_X11_lasts_b72_body N K72 h x0 x1 x3 x4 x5 x6 x7 x8) := by
  unfold f_X11_lasts_b72_body
  refine a_iload dX11_lasts_72 7 rfl ?_
  refine a_iload dX11_lasts_74 3 rfl ?_
  refine a_icmp_ge 102 dX11_lasts_76 (by decide) (fun c12 => ?_) (fun c12 => ?_)
  · refine a_iload dX11_lasts_102 6 rfl ?_
    exact a_iret dX11_lasts_104 rfl rfl (by decide) (by decide)
  · refine a_aload_n dX11_lasts_79 rfl 0 rfl ?_
    refine a_iload_n dX11_lasts_80 rfl 1 rfl ?_
    refine a_i2l dX11_lasts_81 ?_
    refine a_iload dX11_lasts_82 4 rfl ?_
    refine a_iload_n dX11_lasts_84 rfl 2 rfl ?_
    refine a_iload dX11_lasts_85 5 rfl ?_
    refine a_cV_Si (r := x0) (ci := 12) (as := [.long (x1 : Int32).toInt64, .int x5, .int x3, .int x6]) (st := []) dX11_lasts_87 (c_X11_rowLasts l g h N x0 (x1 : Int32).toInt64 x5 x3 x6) rfl km_X11_rowLasts (hm_X11_rowLasts) rfl (by decide) rfl (fun _ ee => g_X11_rowLasts ee) w_methodLink_RainCover_404 w_instanceMethod_RainCover_rowLasts__JIII_Z w_selects_RainCover_RainCover_rowLasts__JIII_Z_RainCover_rowLasts__JIII_Z ⟨⟨by decide, by decide⟩, ⟨by decide, by decide⟩⟩ (Nat.le_of_ble_eq_true rfl) (fun q13 => ?_)
    refine a_if_eq 96 dX11_lasts_90 (by decide) (fun c14 => ?_) (fun c14 => ?_)
    · exact t_X11_lasts_b96 h0 N K72 hK72 q13.2 x0 x1 x3 x4 x5 x6 x7 x8
    · refine a_iinc (q := 6) (v := (x7 + 1)) (lc2 := [(7, .int (x7 + 1)), (0, .ref x0), (1, .int x1), (3, .int x3), (4, .int x4), (5, .int x5), (6, .int x6), (8, .int x8)]) dX11_lasts_93 rfl rfl (by decide) rfl ?_
      refine a_pick (lc2 := [(0, .ref x0), (1, .int x1), (3, .int x3), (4, .int x4), (5, .int x5), (6, .int x6), (7, .int (x7 + 1)), (8, .int x8)]) [1, 2, 3, 4, 5, 6, 0, 7] rfl ?_
      exact t_X11_lasts_b96 h0 N K72 hK72 q13.2 x0 x1 x3 x4 x5 x6 (x7 + 1) x8
set_option maxRecDepth 100000 in
set_option maxHeartbeats 4000000 in
theorem t_X11_lasts_b72 (h0 : AH) (N : Nat) : ∀ (n : Nat) (h : AH) (x0 : Nat) (x1 : Int32) (x3 : Int32) (x4 : Int32) (x5 : Int32) (x6 : Int32) (x7 : Int32) (x8 : Int32) , AO l g M_X11_lasts false h0 72 [(0, .ref x0), (1, .int x1), (3, .int x3), (4, .int x4), (5, .int x5), (6, .int x6), (7, .int x7), (8, .int x8)] [] h 0 0 rSi (f_X11_lasts_b72 N  n h x0 x1 x3 x4 x5 x6 x7 x8) := by
  intro n
  induction n with
  | zero => intro h x0 x1 x3 x4 x5 x6 x7 x8; exact a_eq rfl a_none
  | succ n ih => intro h x0 x1 x3 x4 x5 x6 x7 x8; exact a_eq rfl (t_X11_lasts_b72_body h0 N  (f_X11_lasts_b72 N  n) ih h x0 x1 x3 x4 x5 x6 x7 x8)
end
set_option maxRecDepth 100000 in
set_option maxHeartbeats 4000000 in
theorem c_X11_lasts (l : Launch) (g : GG) (h0 : AH) (N : Nat) (p0 : Nat) (p1 : Int32) (p2 : Int32) (p3 : Int32) (p4 : Int32) : CN l g yX11_lasts M_X11_lasts false [.ref p0, .int p1, .int p2, .int p3, .int p4] h0 rSi (f_X11_lasts h0 N p0 p1 p2 p3 p4) := by
  refine CN.of (by decide) rfl (fun hh => by first | rfl | cases hh) (Nat.le_of_ble_eq_true rfl) ?_
  unfold f_X11_lasts
  refine a_gd (fun hkd => ?_)
  refine a_iload_n dX11_lasts_0 rfl 2 rfl ?_
  refine a_cS_Pi (as := [.int p2]) (st := []) dX11_lasts_1 (c_X11_isSeason l g h0 p2) rfl km_X11_isSeason (hm_X11_isSeason) w_methodLink_RainCover_100 w_static_RainCover_isSeason__I_Z ⟨⟨by decide, by decide⟩, ⟨by decide, by decide⟩⟩ (Nat.le_of_ble_eq_true rfl) (fun v1 => ?_)
  refine a_if_ne 9 dX11_lasts_4 (by decide) (fun c2 => ?_) (fun c2 => ?_)
  · refine a_iconst (v := (-1)) dX11_lasts_7 (by decide) ?_
    exact a_iret dX11_lasts_8 rfl rfl (by decide) (by decide)
  · refine a_iload_n dX11_lasts_9 rfl 1 rfl ?_
    refine a_iconst (v := 0) dX11_lasts_10 (by decide) ?_
    refine a_ldcw (v := 2000000000) dX11_lasts_11 w_constant_RainCover_400 ?_
    refine a_cS_Pi (as := [.int p1, .int 0, .int 2000000000]) (st := []) dX11_lasts_14 (c_X11_within l g h0 p1 0 2000000000) rfl km_X11_within (hm_X11_within) w_methodLink_RainCover_120 w_static_RainCover_within__III_Z ⟨⟨by decide, by decide⟩, ⟨by decide, by decide⟩⟩ (Nat.le_of_ble_eq_true rfl) (fun v3 => ?_)
    refine a_if_eq 41 dX11_lasts_17 (by decide) (fun c4 => ?_) (fun c4 => ?_)
    · refine a_bipush (v := (-2)) dX11_lasts_41 (by decide) ?_
      exact a_iret dX11_lasts_43 rfl rfl (by decide) (by decide)
    · refine a_iload_n dX11_lasts_20 rfl 3 rfl ?_
      refine a_iconst (v := 1) dX11_lasts_21 (by decide) ?_
      refine a_bipush (v := 40) dX11_lasts_22 (by decide) ?_
      refine a_cS_Pi (as := [.int p3, .int 1, .int 40]) (st := []) dX11_lasts_24 (c_X11_within l g h0 p3 1 40) rfl km_X11_within (hm_X11_within) w_methodLink_RainCover_120 w_static_RainCover_within__III_Z ⟨⟨by decide, by decide⟩, ⟨by decide, by decide⟩⟩ (Nat.le_of_ble_eq_true rfl) (fun v5 => ?_)
      refine a_if_eq 41 dX11_lasts_27 (by decide) (fun c6 => ?_) (fun c6 => ?_)
      · refine a_bipush (v := (-2)) dX11_lasts_41 (by decide) ?_
        exact a_iret dX11_lasts_43 rfl rfl (by decide) (by decide)
      · refine a_iload dX11_lasts_30 4 rfl ?_
        refine a_iconst (v := 1) dX11_lasts_32 (by decide) ?_
        refine a_bipush (v := 40) dX11_lasts_33 (by decide) ?_
        refine a_cS_Pi (as := [.int p4, .int 1, .int 40]) (st := []) dX11_lasts_35 (c_X11_within l g h0 p4 1 40) rfl km_X11_within (hm_X11_within) w_methodLink_RainCover_120 w_static_RainCover_within__III_Z ⟨⟨by decide, by decide⟩, ⟨by decide, by decide⟩⟩ (Nat.le_of_ble_eq_true rfl) (fun v7 => ?_)
        refine a_if_ne 44 dX11_lasts_38 (by decide) (fun c8 => ?_) (fun c8 => ?_)
        · refine a_bipush (v := (-2)) dX11_lasts_41 (by decide) ?_
          exact a_iret dX11_lasts_43 rfl rfl (by decide) (by decide)
        · refine a_aload_n dX11_lasts_44 rfl 0 rfl ?_
          refine a_iload_n dX11_lasts_45 rfl 2 rfl ?_
          refine a_cV_Si (r := p0) (ci := 12) (as := [.int p2]) (st := []) dX11_lasts_46 (c_X11_incomeIn l g h0 N p0 p2) rfl km_X11_incomeIn (hm_X11_incomeIn) rfl (by decide) rfl (fun _ ee => g_X11_incomeIn ee) w_methodLink_RainCover_394 w_instanceMethod_RainCover_incomeIn__I_I w_selects_RainCover_RainCover_incomeIn__I_I_RainCover_incomeIn__I_I ⟨⟨by decide, by decide⟩, ⟨by decide, by decide⟩⟩ (Nat.le_of_ble_eq_true rfl) (fun q9 => ?_)
          refine a_istore (lc2 := [(5, .int q9.1), (0, .ref p0), (1, .int p1), (2, .int p2), (3, .int p3), (4, .int p4)]) dX11_lasts_49 (by decide) rfl ?_
          refine a_aload_n dX11_lasts_51 rfl 1 rfl ?_
          refine a_iload_n dX11_lasts_52 rfl 3 rfl ?_
          refine a_cV_Si (r := p0) (ci := 12) (as := [.int p2]) (st := []) dX11_lasts_53 (c_X11_gatherTotals l g q9.2 N p0 p2) rfl km_X11_gatherTotals (hm_X11_gatherTotals) rfl (by decide) rfl (fun _ ee => g_X11_gatherTotals ee) w_methodLink_RainCover_401 w_instanceMethod_RainCover_gatherTotals__I_I w_selects_RainCover_RainCover_gatherTotals__I_I_RainCover_gatherTotals__I_I ⟨⟨by decide, by decide⟩, ⟨by decide, by decide⟩⟩ (Nat.le_of_ble_eq_true rfl) (fun q10 => ?_)
          refine a_istore (lc2 := [(6, .int q10.1), (5, .int q9.1), (0, .ref p0), (1, .int p1), (2, .int p2), (3, .int p3), (4, .int p4)]) dX11_lasts_56 (by decide) rfl ?_
          refine a_iload dX11_lasts_58 0 rfl ?_
          refine a_if_ne 66 dX11_lasts_60 (by decide) (fun c11 => ?_) (fun c11 => ?_)
          · refine a_bipush (v := (-3)) dX11_lasts_63 (by decide) ?_
            exact a_iret dX11_lasts_65 rfl rfl (by decide) (by decide)
          · refine a_iconst (v := 0) dX11_lasts_66 (by decide) ?_
            refine a_istore (lc2 := [(7, .int 0), (6, .int q10.1), (5, .int q9.1), (0, .ref p0), (1, .int p1), (2, .int p2), (3, .int p3), (4, .int p4)]) dX11_lasts_67 (by decide) rfl ?_
            refine a_iconst (v := 0) dX11_lasts_69 (by decide) ?_
            refine a_istore (lc2 := [(8, .int 0), (7, .int 0), (6, .int q10.1), (5, .int q9.1), (0, .ref p0), (1, .int p1), (2, .int p2), (3, .int p3), (4, .int p4)]) dX11_lasts_70 (by decide) rfl ?_
            refine a_pick (lc2 := [(0, .ref p0), (1, .int p1), (3, .int p3), (4, .int p4), (5, .int q9.1), (6, .int q10.1), (7, .int 0), (8, .int 0)]) [4, 5, 7, 8, 3, 2, 1, 0] rfl ?_
            exact t_X11_lasts_b72 h0 N N q10.2 p0 p1 p3 p4 q9.1 q10.1 0 0
theorem dX7_hasRoomFor_0 : decode cX7_hasRoomFor 0 = .ok (.aload_n 0, 1) := by decide +kernel
theorem dX7_hasRoomFor_1 : decode cX7_hasRoomFor 1 = .ok (.getfield 9, 3) := by decide +kernel
theorem dX7_hasRoomFor_4 : decode cX7_hasRoomFor 4 = .ok (.iload_n 1, 1) := by decide +kernel
theorem dX7_hasRoomFor_5 : decode cX7_hasRoomFor 5 = .ok (.iadd, 1) := by decide +kernel
theorem dX7_hasRoomFor_6 : decode cX7_hasRoomFor 6 = .ok (.aload_n 0, 1) := by decide +kernel
theorem dX7_hasRoomFor_7 : decode cX7_hasRoomFor 7 = .ok (.getfield 15, 3) := by decide +kernel
theorem dX7_hasRoomFor_10 : decode cX7_hasRoomFor 10 = .ok (.if_icmp .gt 7, 3) := by decide +kernel
theorem dX7_hasRoomFor_13 : decode cX7_hasRoomFor 13 = .ok (.iconst 1, 1) := by decide +kernel
theorem dX7_hasRoomFor_14 : decode cX7_hasRoomFor 14 = .ok (.goto 4, 3) := by decide +kernel
theorem dX7_hasRoomFor_17 : decode cX7_hasRoomFor 17 = .ok (.iconst 0, 1) := by decide +kernel
theorem dX7_hasRoomFor_18 : decode cX7_hasRoomFor 18 = .ok (.ireturn, 1) := by decide +kernel
abbrev M_X7_hasRoomFor : MI := (RX7, cX7_hasRoomFor, 2, (some .boolean), ({ frames := 0, cells := 0, slots := 0, locals := 0 } : Room), 0, 0, false)
def f_X7_hasRoomFor (h : AH) (p0 : Nat) (p1 : Int32) : Option Int32 := if kd h p0 = 8 + 1 then (xgi h p0 8 3).bind fun v1 => (xgi h p0 8 0).bind fun v2 => (if v2 < (v1 + p1) then some 0 else some 1) else none
theorem g_X7_hasRoomFor {h : AH} {p0 : Nat} {p1 : Int32} {x : Int32} (e : f_X7_hasRoomFor h p0 p1 = some x) : kd h p0 = 8 + 1 := by
  unfold f_X7_hasRoomFor at e
  by_cases hk : kd h p0 = 8 + 1
  · exact hk
  · rw [if_neg hk] at e
    cases e
theorem km_X7_hasRoomFor : KM yX7_hasRoomFor M_X7_hasRoomFor 1 := ⟨in_tb 994 (by decide +kernel) rfl, in_tb 7 (by decide +kernel) rfl, by decide +kernel, rfl, rfl⟩
theorem hm_X7_hasRoomFor : M_X7_hasRoomFor.2.2.2.2.2.1 = 0 ∧ M_X7_hasRoomFor.2.2.2.2.2.2.1 = 0 := ⟨rfl, rfl⟩
section
variable {l : Launch} {g : GG}
end
set_option maxRecDepth 100000 in
set_option maxHeartbeats 4000000 in
theorem c_X7_hasRoomFor (l : Launch) (g : GG) (h : AH) (p0 : Nat) (p1 : Int32) : CN l g yX7_hasRoomFor M_X7_hasRoomFor false [.ref p0, .int p1] h ((rPi h)) (f_X7_hasRoomFor h p0 p1) := by
  refine CN.of (by decide) rfl (fun hh => by first | rfl | cases hh) (Nat.le_of_ble_eq_true rfl) ?_
  unfold f_X7_hasRoomFor
  refine a_gd (fun hkd => ?_)
  refine a_aload_n dX7_hasRoomFor_0 rfl 0 rfl ?_
  refine a_geti kc8 3 dX7_hasRoomFor_1 (by decide) rfl w_fieldLink_RainCover_Table_9 (fun v1 => ?_)
  refine a_iload_n dX7_hasRoomFor_4 rfl 1 rfl ?_
  refine a_iadd dX7_hasRoomFor_5 ?_
  refine a_aload_n dX7_hasRoomFor_6 rfl 0 rfl ?_
  refine a_geti kc8 0 dX7_hasRoomFor_7 (by decide) rfl w_fieldLink_RainCover_Table_15 (fun v2 => ?_)
  refine a_icmp_gt 17 dX7_hasRoomFor_10 (by decide) (fun c3 => ?_) (fun c3 => ?_)
  · refine a_iconst (v := 0) dX7_hasRoomFor_17 (by decide) ?_
    exact a_zret dX7_hasRoomFor_18 rfl (Or.inl rfl) rfl (by decide) (by decide)
  · refine a_iconst (v := 1) dX7_hasRoomFor_13 (by decide) ?_
    refine a_goto 18 dX7_hasRoomFor_14 (by decide) ?_
    exact a_zret dX7_hasRoomFor_18 rfl (Or.inr rfl) rfl (by decide) (by decide)
theorem dX11_settleFarm_0 : decode cX11_settleFarm 0 = .ok (.aload_n 1, 1) := by decide +kernel
theorem dX11_settleFarm_1 : decode cX11_settleFarm 1 = .ok (.getfield 289, 3) := by decide +kernel
theorem dX11_settleFarm_4 : decode cX11_settleFarm 4 = .ok (.iload_n 2, 1) := by decide +kernel
theorem dX11_settleFarm_5 : decode cX11_settleFarm 5 = .ok (.dup2, 1) := by decide +kernel
theorem dX11_settleFarm_6 : decode cX11_settleFarm 6 = .ok (.iaload, 1) := by decide +kernel
theorem dX11_settleFarm_7 : decode cX11_settleFarm 7 = .ok (.iload_n 3, 1) := by decide +kernel
theorem dX11_settleFarm_8 : decode cX11_settleFarm 8 = .ok (.iadd, 1) := by decide +kernel
theorem dX11_settleFarm_9 : decode cX11_settleFarm 9 = .ok (.iastore, 1) := by decide +kernel
theorem dX11_settleFarm_10 : decode cX11_settleFarm 10 = .ok (.iload_n 3, 1) := by decide +kernel
theorem dX11_settleFarm_11 : decode cX11_settleFarm 11 = .ok (.ifCond .ge 14, 3) := by decide +kernel
theorem dX11_settleFarm_14 : decode cX11_settleFarm 14 = .ok (.aload_n 1, 1) := by decide +kernel
theorem dX11_settleFarm_15 : decode cX11_settleFarm 15 = .ok (.dup, 1) := by decide +kernel
theorem dX11_settleFarm_16 : decode cX11_settleFarm 16 = .ok (.getfield 412, 3) := by decide +kernel
theorem dX11_settleFarm_19 : decode cX11_settleFarm 19 = .ok (.iload_n 3, 1) := by decide +kernel
theorem dX11_settleFarm_20 : decode cX11_settleFarm 20 = .ok (.isub, 1) := by decide +kernel
theorem dX11_settleFarm_21 : decode cX11_settleFarm 21 = .ok (.putfield 412, 3) := by decide +kernel
theorem dX11_settleFarm_24 : decode cX11_settleFarm 24 = .ok (.return_, 1) := by decide +kernel
theorem dX11_settleFarm_25 : decode cX11_settleFarm 25 = .ok (.iload_n 3, 1) := by decide +kernel
theorem dX11_settleFarm_26 : decode cX11_settleFarm 26 = .ok (.aload_n 1, 1) := by decide +kernel
theorem dX11_settleFarm_27 : decode cX11_settleFarm 27 = .ok (.getfield 412, 3) := by decide +kernel
theorem dX11_settleFarm_30 : decode cX11_settleFarm 30 = .ok (.invokestatic 340, 3) := by decide +kernel
theorem dX11_settleFarm_33 : decode cX11_settleFarm 33 = .ok (.istore 4, 2) := by decide +kernel
theorem dX11_settleFarm_35 : decode cX11_settleFarm 35 = .ok (.aload_n 1, 1) := by decide +kernel
theorem dX11_settleFarm_36 : decode cX11_settleFarm 36 = .ok (.dup, 1) := by decide +kernel
theorem dX11_settleFarm_37 : decode cX11_settleFarm 37 = .ok (.getfield 412, 3) := by decide +kernel
theorem dX11_settleFarm_40 : decode cX11_settleFarm 40 = .ok (.iload 4, 2) := by decide +kernel
theorem dX11_settleFarm_42 : decode cX11_settleFarm 42 = .ok (.isub, 1) := by decide +kernel
theorem dX11_settleFarm_43 : decode cX11_settleFarm 43 = .ok (.putfield 412, 3) := by decide +kernel
theorem dX11_settleFarm_46 : decode cX11_settleFarm 46 = .ok (.iload_n 3, 1) := by decide +kernel
theorem dX11_settleFarm_47 : decode cX11_settleFarm 47 = .ok (.iload 4, 2) := by decide +kernel
theorem dX11_settleFarm_49 : decode cX11_settleFarm 49 = .ok (.if_icmp .le 21, 3) := by decide +kernel
theorem dX11_settleFarm_52 : decode cX11_settleFarm 52 = .ok (.aload_n 0, 1) := by decide +kernel
theorem dX11_settleFarm_53 : decode cX11_settleFarm 53 = .ok (.getfield 60, 3) := by decide +kernel
theorem dX11_settleFarm_56 : decode cX11_settleFarm 56 = .ok (.aload_n 1, 1) := by decide +kernel
theorem dX11_settleFarm_57 : decode cX11_settleFarm 57 = .ok (.getfield 318, 3) := by decide +kernel
theorem dX11_settleFarm_60 : decode cX11_settleFarm 60 = .ok (.iload_n 2, 1) := by decide +kernel
theorem dX11_settleFarm_61 : decode cX11_settleFarm 61 = .ok (.iload_n 3, 1) := by decide +kernel
theorem dX11_settleFarm_62 : decode cX11_settleFarm 62 = .ok (.iload 4, 2) := by decide +kernel
theorem dX11_settleFarm_64 : decode cX11_settleFarm 64 = .ok (.isub, 1) := by decide +kernel
theorem dX11_settleFarm_65 : decode cX11_settleFarm 65 = .ok (.iconst 0, 1) := by decide +kernel
theorem dX11_settleFarm_66 : decode cX11_settleFarm 66 = .ok (.invokevirtual 264, 3) := by decide +kernel
theorem dX11_settleFarm_69 : decode cX11_settleFarm 69 = .ok (.pop, 1) := by decide +kernel
theorem dX11_settleFarm_70 : decode cX11_settleFarm 70 = .ok (.return_, 1) := by decide +kernel
abbrev M_X11_settleFarm : MI := (RX11, cX11_settleFarm, 5, none, ({ frames := 1, cells := 0, slots := 0, locals := 25 } : Room), 0, 0, false)
def f_X11_settleFarm (h0 : AH) (p0 : Nat) (p1 : Nat) (p2 : Int32) (p3 : Int32) : Option AH := if kd h0 p0 = 12 + 1 then (xgr h0 p1 3 5).bind fun v1 => (xia h0 v1 p2).bind fun v2 => (xis h0 v1 p2 (v2 + p3)).bind fun h3 => (if 0 ≤ p3 then (xgi h3 p1 3 6).bind fun v5 => (xgi h3 p1 3 6).bind fun v6 => (xpi h3 p1 3 6 (v6 - (if v5 < p3 then v5 else p3))).bind fun h7 => (if p3 ≤ (if v5 < p3 then v5 else p3) then some h7 else (xgr h7 p0 12 10).bind fun v9 => (xgi h7 p1 3 0).bind fun v10 => (f_X7_add h7 v9 v10 p2 (p3 - (if v5 < p3 then v5 else p3)) 0).bind fun q11 => some q11.2) else (xgi h3 p1 3 6).bind fun v12 => (xpi h3 p1 3 6 (v12 - p3)).bind fun h13 => some h13) else none
theorem g_X11_settleFarm {h0 : AH} {p0 : Nat} {p1 : Nat} {p2 : Int32} {p3 : Int32} {x : AH} (e : f_X11_settleFarm h0 p0 p1 p2 p3 = some x) : kd h0 p0 = 12 + 1 := by
  unfold f_X11_settleFarm at e
  by_cases hk : kd h0 p0 = 12 + 1
  · exact hk
  · rw [if_neg hk] at e
    cases e
theorem km_X11_settleFarm : KM yX11_settleFarm M_X11_settleFarm 3 := ⟨in_tb 998 (by decide +kernel) rfl, in_tb 1 (by decide +kernel) rfl, by decide +kernel, rfl, rfl⟩
theorem hm_X11_settleFarm : M_X11_settleFarm.2.2.2.2.2.1 = 0 ∧ M_X11_settleFarm.2.2.2.2.2.2.1 = 0 := ⟨rfl, rfl⟩
section
variable {l : Launch} {g : GG}
end
set_option maxRecDepth 100000 in
set_option maxHeartbeats 4000000 in
theorem c_X11_settleFarm (l : Launch) (g : GG) (h0 : AH) (p0 : Nat) (p1 : Nat) (p2 : Int32) (p3 : Int32) : CN l g yX11_settleFarm M_X11_settleFarm false [.ref p0, .ref p1, .int p2, .int p3] h0 rSv (f_X11_settleFarm h0 p0 p1 p2 p3) := by
  refine CN.of (by decide) rfl (fun hh => by first | rfl | cases hh) (Nat.le_of_ble_eq_true rfl) ?_
  unfold f_X11_settleFarm
  refine a_gd (fun hkd => ?_)
  refine a_aload_n dX11_settleFarm_0 rfl 1 rfl ?_
  refine a_getr kc3 5 dX11_settleFarm_1 (by decide) rfl w_fieldLink_RainCover_289 (fun v1 => ?_)
  refine a_iload_n dX11_settleFarm_4 rfl 2 rfl ?_
  refine a_dup2 dX11_settleFarm_5 rfl rfl ?_
  refine a_iald dX11_settleFarm_6 (fun v2 => ?_)
  refine a_iload_n dX11_settleFarm_7 rfl 3 rfl ?_
  refine a_iadd dX11_settleFarm_8 ?_
  refine a_iast dX11_settleFarm_9 (fun h3 => ?_)
  refine a_iload_n dX11_settleFarm_10 rfl 3 rfl ?_
  refine a_if_ge 25 dX11_settleFarm_11 (by decide) (fun c4 => ?_) (fun c4 => ?_)
  · refine a_iload_n dX11_settleFarm_25 rfl 3 rfl ?_
    refine a_aload_n dX11_settleFarm_26 rfl 1 rfl ?_
    refine a_geti kc3 6 dX11_settleFarm_27 (by decide) rfl w_fieldLink_RainCover_412 (fun v5 => ?_)
    refine a_mmin dX11_settleFarm_30 w_methodLink_RainCover_340 w_static_java_lang_Math_min__II_I w_initialized_java_lang_Math w_code_java_lang_Math_min__II_I (by decide) (by decide) (by decide) (by decide) (Nat.le_of_ble_eq_true rfl) ?_
    refine a_istore (lc2 := [(4, .int (if v5 < p3 then v5 else p3)), (0, .ref p0), (1, .ref p1), (2, .int p2), (3, .int p3)]) dX11_settleFarm_33 (by decide) rfl ?_
    refine a_aload_n dX11_settleFarm_35 rfl 2 rfl ?_
    refine a_dup dX11_settleFarm_36 rfl ?_
    refine a_geti kc3 6 dX11_settleFarm_37 (by decide) rfl w_fieldLink_RainCover_412 (fun v6 => ?_)
    refine a_iload dX11_settleFarm_40 0 rfl ?_
    refine a_isub dX11_settleFarm_42 ?_
    refine a_puti kc3 6 dX11_settleFarm_43 (by decide) rfl w_fieldLink_RainCover_412 rfl rfl (fun h7 => ?_)
    refine a_iload_n dX11_settleFarm_46 rfl 4 rfl ?_
    refine a_iload dX11_settleFarm_47 0 rfl ?_
    refine a_icmp_le 70 dX11_settleFarm_49 (by decide) (fun c8 => ?_) (fun c8 => ?_)
    · exact a_vret dX11_settleFarm_70 rfl rfl (by decide) (by decide)
    · refine a_aload_n dX11_settleFarm_52 rfl 1 rfl ?_
      refine a_getr kc12 10 dX11_settleFarm_53 (by decide) rfl w_fieldLink_RainCover_60 (fun v9 => ?_)
      refine a_aload_n dX11_settleFarm_56 rfl 2 rfl ?_
      refine a_geti kc3 0 dX11_settleFarm_57 (by decide) rfl w_fieldLink_RainCover_318 (fun v10 => ?_)
      refine a_iload_n dX11_settleFarm_60 rfl 3 rfl ?_
      refine a_iload_n dX11_settleFarm_61 rfl 4 rfl ?_
      refine a_iload dX11_settleFarm_62 0 rfl ?_
      refine a_isub dX11_settleFarm_64 ?_
      refine a_iconst (v := 0) dX11_settleFarm_65 (by decide) ?_
      refine a_cV_Si (r := v9) (ci := 8) (as := [.int v10, .int p2, .int (p3 - (if v5 < p3 then v5 else p3)), .int 0]) (st := []) dX11_settleFarm_66 (c_X7_add l g h7 v9 v10 p2 (p3 - (if v5 < p3 then v5 else p3)) 0) rfl km_X7_add (hm_X7_add) rfl (by decide) rfl (fun _ ee => g_X7_add ee) w_methodLink_RainCover_264 w_instanceMethod_RainCover_Table_add__IIII_I w_selects_RainCover_Table_RainCover_Table_add__IIII_I_RainCover_Table_add__IIII_I ⟨⟨by decide, by decide⟩, ⟨by decide, by decide⟩⟩ (Nat.le_of_ble_eq_true rfl) (fun q11 => ?_)
      refine a_pop dX11_settleFarm_69 rfl ?_
      exact a_vret dX11_settleFarm_70 rfl rfl (by decide) (by decide)
  · refine a_aload_n dX11_settleFarm_14 rfl 1 rfl ?_
    refine a_dup dX11_settleFarm_15 rfl ?_
    refine a_geti kc3 6 dX11_settleFarm_16 (by decide) rfl w_fieldLink_RainCover_412 (fun v12 => ?_)
    refine a_iload_n dX11_settleFarm_19 rfl 3 rfl ?_
    refine a_isub dX11_settleFarm_20 ?_
    refine a_puti kc3 6 dX11_settleFarm_21 (by decide) rfl w_fieldLink_RainCover_412 rfl rfl (fun h13 => ?_)
    exact a_vret dX11_settleFarm_24 rfl rfl (by decide) (by decide)
theorem dX11_settle_0 : decode cX11_settle 0 = .ok (.iload_n 1, 1) := by decide +kernel
theorem dX11_settle_1 : decode cX11_settle 1 = .ok (.invokestatic 100, 3) := by decide +kernel
theorem dX11_settle_4 : decode cX11_settle 4 = .ok (.ifCond .ne 5, 3) := by decide +kernel
theorem dX11_settle_7 : decode cX11_settle 7 = .ok (.iconst (-1), 1) := by decide +kernel
theorem dX11_settle_8 : decode cX11_settle 8 = .ok (.ireturn, 1) := by decide +kernel
theorem dX11_settle_9 : decode cX11_settle 9 = .ok (.iconst 0, 1) := by decide +kernel
theorem dX11_settle_10 : decode cX11_settle 10 = .ok (.istore_n 2, 1) := by decide +kernel
theorem dX11_settle_11 : decode cX11_settle 11 = .ok (.iconst 0, 1) := by decide +kernel
theorem dX11_settle_12 : decode cX11_settle 12 = .ok (.istore_n 3, 1) := by decide +kernel
theorem dX11_settle_13 : decode cX11_settle 13 = .ok (.iload_n 3, 1) := by decide +kernel
theorem dX11_settle_14 : decode cX11_settle 14 = .ok (.aload_n 0, 1) := by decide +kernel
theorem dX11_settle_15 : decode cX11_settle 15 = .ok (.getfield 21, 3) := by decide +kernel
theorem dX11_settle_18 : decode cX11_settle 18 = .ok (.invokevirtual 104, 3) := by decide +kernel
theorem dX11_settle_21 : decode cX11_settle 21 = .ok (.if_icmp .ge 64, 3) := by decide +kernel
theorem dX11_settle_24 : decode cX11_settle 24 = .ok (.aload_n 0, 1) := by decide +kernel
theorem dX11_settle_25 : decode cX11_settle 25 = .ok (.getfield 21, 3) := by decide +kernel
theorem dX11_settle_28 : decode cX11_settle 28 = .ok (.iload_n 3, 1) := by decide +kernel
theorem dX11_settle_29 : decode cX11_settle 29 = .ok (.invokevirtual 124, 3) := by decide +kernel
theorem dX11_settle_32 : decode cX11_settle 32 = .ok (.checkcast 233, 3) := by decide +kernel
theorem dX11_settle_35 : decode cX11_settle 35 = .ok (.astore 4, 2) := by decide +kernel
theorem dX11_settle_37 : decode cX11_settle 37 = .ok (.aload_n 0, 1) := by decide +kernel
theorem dX11_settle_38 : decode cX11_settle 38 = .ok (.getfield 93, 3) := by decide +kernel
theorem dX11_settle_41 : decode cX11_settle 41 = .ok (.iload_n 3, 1) := by decide +kernel
theorem dX11_settle_42 : decode cX11_settle 42 = .ok (.aload_n 0, 1) := by decide +kernel
theorem dX11_settle_43 : decode cX11_settle 43 = .ok (.aload 4, 2) := by decide +kernel
theorem dX11_settle_45 : decode cX11_settle 45 = .ok (.iload_n 1, 1) := by decide +kernel
theorem dX11_settle_46 : decode cX11_settle 46 = .ok (.aload_n 0, 1) := by decide +kernel
theorem dX11_settle_47 : decode cX11_settle 47 = .ok (.invokevirtual 179, 3) := by decide +kernel
theorem dX11_settle_50 : decode cX11_settle 50 = .ok (.invokevirtual 292, 3) := by decide +kernel
theorem dX11_settle_53 : decode cX11_settle 53 = .ok (.aload 4, 2) := by decide +kernel
theorem dX11_settle_55 : decode cX11_settle 55 = .ok (.getfield 289, 3) := by decide +kernel
theorem dX11_settle_58 : decode cX11_settle 58 = .ok (.iload_n 1, 1) := by decide +kernel
theorem dX11_settle_59 : decode cX11_settle 59 = .ok (.iaload, 1) := by decide +kernel
theorem dX11_settle_60 : decode cX11_settle 60 = .ok (.isub, 1) := by decide +kernel
theorem dX11_settle_61 : decode cX11_settle 61 = .ok (.iastore, 1) := by decide +kernel
theorem dX11_settle_62 : decode cX11_settle 62 = .ok (.aload_n 0, 1) := by decide +kernel
theorem dX11_settle_63 : decode cX11_settle 63 = .ok (.getfield 93, 3) := by decide +kernel
theorem dX11_settle_66 : decode cX11_settle 66 = .ok (.iload_n 3, 1) := by decide +kernel
theorem dX11_settle_67 : decode cX11_settle 67 = .ok (.iaload, 1) := by decide +kernel
theorem dX11_settle_68 : decode cX11_settle 68 = .ok (.aload 4, 2) := by decide +kernel
theorem dX11_settle_70 : decode cX11_settle 70 = .ok (.getfield 412, 3) := by decide +kernel
theorem dX11_settle_73 : decode cX11_settle 73 = .ok (.if_icmp .le 6, 3) := by decide +kernel
theorem dX11_settle_76 : decode cX11_settle 76 = .ok (.iinc 2 1, 3) := by decide +kernel
theorem dX11_settle_79 : decode cX11_settle 79 = .ok (.iinc 3 1, 3) := by decide +kernel
theorem dX11_settle_82 : decode cX11_settle 82 = .ok (.goto (-69), 3) := by decide +kernel
theorem dX11_settle_85 : decode cX11_settle 85 = .ok (.aload_n 0, 1) := by decide +kernel
theorem dX11_settle_86 : decode cX11_settle 86 = .ok (.getfield 60, 3) := by decide +kernel
theorem dX11_settle_89 : decode cX11_settle 89 = .ok (.iload_n 2, 1) := by decide +kernel
theorem dX11_settle_90 : decode cX11_settle 90 = .ok (.invokevirtual 415, 3) := by decide +kernel
theorem dX11_settle_93 : decode cX11_settle 93 = .ok (.ifCond .ne 6, 3) := by decide +kernel
theorem dX11_settle_96 : decode cX11_settle 96 = .ok (.bipush (-4), 2) := by decide +kernel
theorem dX11_settle_98 : decode cX11_settle 98 = .ok (.ireturn, 1) := by decide +kernel
theorem dX11_settle_99 : decode cX11_settle 99 = .ok (.iconst 0, 1) := by decide +kernel
theorem dX11_settle_100 : decode cX11_settle 100 = .ok (.istore_n 3, 1) := by decide +kernel
theorem dX11_settle_101 : decode cX11_settle 101 = .ok (.iload_n 3, 1) := by decide +kernel
theorem dX11_settle_102 : decode cX11_settle 102 = .ok (.aload_n 0, 1) := by decide +kernel
theorem dX11_settle_103 : decode cX11_settle 103 = .ok (.getfield 21, 3) := by decide +kernel
theorem dX11_settle_106 : decode cX11_settle 106 = .ok (.invokevirtual 104, 3) := by decide +kernel
theorem dX11_settle_109 : decode cX11_settle 109 = .ok (.if_icmp .ge 31, 3) := by decide +kernel
theorem dX11_settle_112 : decode cX11_settle 112 = .ok (.aload_n 0, 1) := by decide +kernel
theorem dX11_settle_113 : decode cX11_settle 113 = .ok (.aload_n 0, 1) := by decide +kernel
theorem dX11_settle_114 : decode cX11_settle 114 = .ok (.getfield 21, 3) := by decide +kernel
theorem dX11_settle_117 : decode cX11_settle 117 = .ok (.iload_n 3, 1) := by decide +kernel
theorem dX11_settle_118 : decode cX11_settle 118 = .ok (.invokevirtual 124, 3) := by decide +kernel
theorem dX11_settle_121 : decode cX11_settle 121 = .ok (.checkcast 233, 3) := by decide +kernel
theorem dX11_settle_124 : decode cX11_settle 124 = .ok (.iload_n 1, 1) := by decide +kernel
theorem dX11_settle_125 : decode cX11_settle 125 = .ok (.aload_n 0, 1) := by decide +kernel
theorem dX11_settle_126 : decode cX11_settle 126 = .ok (.getfield 93, 3) := by decide +kernel
theorem dX11_settle_129 : decode cX11_settle 129 = .ok (.iload_n 3, 1) := by decide +kernel
theorem dX11_settle_130 : decode cX11_settle 130 = .ok (.iaload, 1) := by decide +kernel
theorem dX11_settle_131 : decode cX11_settle 131 = .ok (.invokevirtual 416, 3) := by decide +kernel
theorem dX11_settle_134 : decode cX11_settle 134 = .ok (.iinc 3 1, 3) := by decide +kernel
theorem dX11_settle_137 : decode cX11_settle 137 = .ok (.goto (-36), 3) := by decide +kernel
theorem dX11_settle_140 : decode cX11_settle 140 = .ok (.iload_n 2, 1) := by decide +kernel
theorem dX11_settle_141 : decode cX11_settle 141 = .ok (.ireturn, 1) := by decide +kernel
abbrev M_X11_settle : MI := (RX11, cX11_settle, 5, (some .int), ({ frames := 8, cells := 0, slots := 0, locals := 197 } : Room), 0, 0, false)
def f_X11_settle_b79 (N : Nat) (K13 : AH → Nat → Int32 → Int32 → Int32 → Option (Int32 × AH)) (h : AH) (x0 : Nat) (x1 : Int32) (x2 : Int32) (x3 : Int32) : Option (Int32 × AH) := K13 h x0 x1 x2 (x3 + 1)
def f_X11_settle_b101_body (N : Nat) (K101 : AH → Nat → Int32 → Int32 → Int32 → Option (Int32 × AH)) (h : AH) (x0 : Nat) (x1 : Int32) (x2 : Int32) (x3 : Int32) : Option (Int32 × AH) := (xgr h x0 12 2).bind fun v21 => (f_Jx4a65c_size_8abf5 h v21).bind fun v22 => (if v22 ≤ x3 then some (x2, h) else (xgr h x0 12 2).bind fun v24 => (f_Jx4a65c_get_915e3 h v24 x3).bind fun v25 => (xcc h v25 3).bind fun _ => (xgr h x0 12 19).bind fun v26 => (xia h v26 x3).bind fun v27 => (f_X11_settleFarm h x0 v25 x1 v27).bind fun q28 => K101 q28 x0 x1 x2 (x3 + 1))
def f_X11_settle_b101 (N : Nat) : Nat → AH → Nat → Int32 → Int32 → Int32 → Option (Int32 × AH)
  | 0, _, _, _, _, _ => none
  | n + 1, h, x0, x1, x2, x3 => f_X11_settle_b101_body N  (f_X11_settle_b101 N  n) h x0 x1 x2 x3
def f_X11_settle_b13_body (N : Nat) (K13 : AH → Nat → Int32 → Int32 → Int32 → Option (Int32 × AH)) (h : AH) (x0 : Nat) (x1 : Int32) (x2 : Int32) (x3 : Int32) : Option (Int32 × AH) := (xgr h x0 12 2).bind fun v3 => (f_Jx4a65c_size_8abf5 h v3).bind fun v4 => (if v4 ≤ x3 then (xgr h x0 12 10).bind fun v6 => (f_X7_hasRoomFor h v6 x2).bind fun v7 => (if v7 = 0 then some ((-4), h) else f_X11_settle_b101 N N h x0 x1 x2 0) else (xgr h x0 12 2).bind fun v9 => (f_Jx4a65c_get_915e3 h v9 x3).bind fun v10 => (xcc h v10 3).bind fun _ => (xgr h x0 12 19).bind fun v11 => (f_X11_now h x0).bind fun v12 => (f_X11_dueOf h N x0 v10 x1 v12).bind fun q13 => (xgr q13.2 v10 3 5).bind fun v14 => (xia q13.2 v14 x1).bind fun v15 => (xis q13.2 v11 x3 (q13.1 - v15)).bind fun h16 => (xgr h16 x0 12 19).bind fun v17 => (xia h16 v17 x3).bind fun v18 => (xgi h16 v10 3 6).bind fun v19 => (if v18 ≤ v19 then f_X11_settle_b79 N K13 h16 x0 x1 x2 x3 else f_X11_settle_b79 N K13 h16 x0 x1 (x2 + 1) x3))
def f_X11_settle_b13 (N : Nat) : Nat → AH → Nat → Int32 → Int32 → Int32 → Option (Int32 × AH)
  | 0, _, _, _, _, _ => none
  | n + 1, h, x0, x1, x2, x3 => f_X11_settle_b13_body N  (f_X11_settle_b13 N  n) h x0 x1 x2 x3
def f_X11_settle (h0 : AH) (N : Nat) (p0 : Nat) (p1 : Int32) : Option (Int32 × AH) := if kd h0 p0 = 12 + 1 then (f_X11_isSeason h0 p1).bind fun v1 => (if v1 = 0 then some ((-1), h0) else f_X11_settle_b13 N N h0 p0 p1 0 0) else none
theorem g_X11_settle {h0 : AH} {N : Nat} {p0 : Nat} {p1 : Int32} {x : (Int32 × AH)} (e : f_X11_settle h0 N p0 p1 = some x) : kd h0 p0 = 12 + 1 := by
  unfold f_X11_settle at e
  by_cases hk : kd h0 p0 = 12 + 1
  · exact hk
  · rw [if_neg hk] at e
    cases e
theorem km_X11_settle : KM yX11_settle M_X11_settle 1 := ⟨in_tb 990 (by decide +kernel) rfl, in_tb 1 (by decide +kernel) rfl, by decide +kernel, rfl, rfl⟩
theorem hm_X11_settle : M_X11_settle.2.2.2.2.2.1 = 0 ∧ M_X11_settle.2.2.2.2.2.2.1 = 0 := ⟨rfl, rfl⟩
section
variable {l : Launch} {g : GG}
set_option maxRecDepth 100000 in
set_option maxHeartbeats 4000000 in
theorem t_X11_settle_b79 (h0 : AH) (N : Nat) (K13 : AH → Nat → Int32 → Int32 → Int32 → Option (Int32 × AH)) (hK13 : ∀ (z : AH) (z0 : Nat) (z1 : Int32) (z2 : Int32) (z3 : Int32), AO l g M_X11_settle false h0 13 [(0, .ref z0), (1, .int z1), (2, .int z2), (3, .int z3)] [] z 0 0 rSi (K13 z z0 z1 z2 z3)) (h : AH) (x0 : Nat) (x1 : Int32) (x2 : Int32) (x3 : Int32) : AO l g M_X11_settle false h0 79 [(0, .ref x0), (1, .int x1), (2, .int x2), (3, .int x3)] [] h 0 0 rSi (f_X11_settle_b79 N K13 h x0 x1 x2 x3) := by
  unfold f_X11_settle_b79
  refine a_iinc (q := 3) (v := (x3 + 1)) (lc2 := [(3, .int (x3 + 1)), (0, .ref x0), (1, .int x1), (2, .int x2)]) dX11_settle_79 rfl rfl (by decide) rfl ?_
  refine a_goto 13 dX11_settle_82 (by decide) ?_
  refine a_pick (lc2 := [(0, .ref x0), (1, .int x1), (2, .int x2), (3, .int (x3 + 1))]) [1, 2, 3, 0] rfl ?_
  exact hK13 h x0 x1 x2 (x3 + 1)
set_option maxRecDepth 100000 in
set_option maxHeartbeats 4000000 in
theorem t_X11_settle_b101_body (h0 : AH) (N : Nat) (K101 : AH → Nat → Int32 → Int32 → Int32 → Option (Int32 × AH)) (hK101 : ∀ (z : AH) (z0 : Nat) (z1 : Int32) (z2 : Int32) (z3 : Int32), AO l g M_X11_settle false h0 101 [(0, .ref z0), (1, .int z1), (2, .int z2), (3, .int z3)] [] z 0 0 rSi (K101 z z0 z1 z2 z3)) (h : AH) (x0 : Nat) (x1 : Int32) (x2 : Int32) (x3 : Int32) : AO l g M_X11_settle false h0 101 [(0, .ref x0), (1, .int x1), (2, .int x2), (3, .int x3)] [] h 0 0 rSi (f_X11_settle_b101_body N K101 h x0 x1 x2 x3) := by
  unfold f_X11_settle_b101_body
  refine a_iload_n dX11_settle_101 rfl 3 rfl ?_
  refine a_aload_n dX11_settle_102 rfl 0 rfl ?_
  refine a_getr kc12 2 dX11_settle_103 (by decide) rfl w_fieldLink_RainCover_21 (fun v21 => ?_)
  refine a_cV_Pi (r := v21) (ci := 0) (as := []) (st := [.int x3]) dX11_settle_106 (c_Jx4a65c_size_8abf5 l g h v21) rfl km_Jx4a65c_size_8abf5 (hm_Jx4a65c_size_8abf5) rfl (by decide) rfl (fun _ ee => g_Jx4a65c_size_8abf5 ee) w_methodLink_RainCover_104 w_instanceMethod_java_util_ArrayList_size___I w_selects_java_util_ArrayList_java_util_ArrayList_size___I_java_util_ArrayList_size___I ⟨⟨by decide, by decide⟩, ⟨by decide, by decide⟩⟩ (Nat.le_of_ble_eq_true rfl) (fun v22 => ?_)
  refine a_icmp_ge 140 dX11_settle_109 (by decide) (fun c23 => ?_) (fun c23 => ?_)
  · refine a_iload_n dX11_settle_140 rfl 2 rfl ?_
    exact a_iret dX11_settle_141 rfl rfl (by decide) (by decide)
  · refine a_aload_n dX11_settle_112 rfl 0 rfl ?_
    refine a_aload_n dX11_settle_113 rfl 0 rfl ?_
    refine a_getr kc12 2 dX11_settle_114 (by decide) rfl w_fieldLink_RainCover_21 (fun v24 => ?_)
    refine a_iload_n dX11_settle_117 rfl 3 rfl ?_
    refine a_cV_Pr (r := v24) (ci := 0) (as := [.int x3]) (st := [.ref x0]) dX11_settle_118 (c_Jx4a65c_get_915e3 l g h v24 x3) rfl km_Jx4a65c_get_915e3 (hm_Jx4a65c_get_915e3) rfl (by decide) rfl (fun _ ee => g_Jx4a65c_get_915e3 ee) w_methodLink_RainCover_124 w_instanceMethod_java_util_ArrayList_get__I_Ljava_lang_Object_ w_selects_java_util_ArrayList_java_util_ArrayList_get__I_Ljava_lang_Object__java_util_ArrayList_get__I_Ljava_lang_Object_ ⟨⟨by decide, by decide⟩, ⟨by decide, by decide⟩⟩ (Nat.le_of_ble_eq_true rfl) (fun v25 => ?_)
    refine a_cast kc3 dX11_settle_121 w_classLink_RainCover_233 ?_
    refine a_iload_n dX11_settle_124 rfl 1 rfl ?_
    refine a_aload_n dX11_settle_125 rfl 0 rfl ?_
    refine a_getr kc12 19 dX11_settle_126 (by decide) rfl w_fieldLink_RainCover_93 (fun v26 => ?_)
    refine a_iload_n dX11_settle_129 rfl 3 rfl ?_
    refine a_iald dX11_settle_130 (fun v27 => ?_)
    refine a_cV_Sv (r := x0) (ci := 12) (as := [.ref v25, .int x1, .int v27]) (st := []) dX11_settle_131 (c_X11_settleFarm l g h x0 v25 x1 v27) rfl km_X11_settleFarm (hm_X11_settleFarm) rfl (by decide) rfl (fun _ ee => g_X11_settleFarm ee) w_methodLink_RainCover_416 w_instanceMethod_RainCover_settleFarm__LRainCover_Farm_II_V w_selects_RainCover_RainCover_settleFarm__LRainCover_Farm_II_V_RainCover_settleFarm__LRainCover_Farm_II_V ⟨⟨by decide, by decide⟩, ⟨by decide, by decide⟩⟩ (Nat.le_of_ble_eq_true rfl) (fun q28 => ?_)
    refine a_iinc (q := 3) (v := (x3 + 1)) (lc2 := [(3, .int (x3 + 1)), (0, .ref x0), (1, .int x1), (2, .int x2)]) dX11_settle_134 rfl rfl (by decide) rfl ?_
    refine a_goto 101 dX11_settle_137 (by decide) ?_
    refine a_pick (lc2 := [(0, .ref x0), (1, .int x1), (2, .int x2), (3, .int (x3 + 1))]) [1, 2, 3, 0] rfl ?_
    exact hK101 q28 x0 x1 x2 (x3 + 1)
set_option maxRecDepth 100000 in
set_option maxHeartbeats 4000000 in
theorem t_X11_settle_b101 (h0 : AH) (N : Nat) : ∀ (n : Nat) (h : AH) (x0 : Nat) (x1 : Int32) (x2 : Int32) (x3 : Int32) , AO l g M_X11_settle false h0 101 [(0, .ref x0), (1, .int x1), (2, .int x2), (3, .int x3)] [] h 0 0 rSi (f_X11_settle_b101 N  n h x0 x1 x2 x3) := by
  intro n
  induction n with
  | zero => intro h x0 x1 x2 x3; exact a_eq rfl a_none
  | succ n ih => intro h x0 x1 x2 x3; exact a_eq rfl (t_X11_settle_b101_body h0 N  (f_X11_settle_b101 N  n) ih h x0 x1 x2 x3)
set_option maxRecDepth 100000 in
set_option maxHeartbeats 4000000 in
theorem t_X11_settle_b13_body (h0 : AH) (N : Nat) (K13 : AH → Nat → Int32 → Int32 → Int32 → Option (Int32 × AH)) (hK13 : ∀ (z : AH) (z0 : Nat) (z1 : Int32) (z2 : Int32) (z3 : Int32), AO l g M_X11_settle false h0 13 [(0, .ref z0), (1, .int z1), (2, .int z2), (3, .int z3)] [] z 0 0 rSi (K13 z z0 z1 z2 z3)) (h : AH) (x0 : Nat) (x1 : Int32) (x2 : Int32) (x3 : Int32) : AO l g M_X11_settle false h0 13 [(0, .ref x0), (1, .int x1), (2, .int x2), (3, .int x3)] [] h 0 0 rSi (f_X11_settle_b13_body N K13 h x0 x1 x2 x3) := by
  unfold f_X11_settle_b13_body
  refine a_iload_n dX11_settle_13 rfl 3 rfl ?_
  refine a_aload_n dX11_settle_14 rfl 0 rfl ?_
  refine a_getr kc12 2 dX11_settle_15 (by decide) rfl w_fieldLink_RainCover_21 (fun v3 => ?_)
  refine a_cV_Pi (r := v3) (ci := 0) (as := []) (st := [.int x3]) dX11_settle_18 (c_Jx4a65c_size_8abf5 l g h v3) rfl km_Jx4a65c_size_8abf5 (hm_Jx4a65c_size_8abf5) rfl (by decide) rfl (fun _ ee => g_Jx4a65c_size_8abf5 ee) w_methodLink_RainCover_104 w_instanceMethod_java_util_ArrayList_size___I w_selects_java_util_ArrayList_java_util_ArrayList_size___I_java_util_ArrayList_size___I ⟨⟨by decide, by decide⟩, ⟨by decide, by decide⟩⟩ (Nat.le_of_ble_eq_true rfl) (fun v4 => ?_)
  refine a_icmp_ge 85 dX11_settle_21 (by decide) (fun c5 => ?_) (fun c5 => ?_)
  · refine a_aload_n dX11_settle_85 rfl 0 rfl ?_
    refine a_getr kc12 10 dX11_settle_86 (by decide) rfl w_fieldLink_RainCover_60 (fun v6 => ?_)
    refine a_iload_n dX11_settle_89 rfl 2 rfl ?_
    refine a_cV_Pi (r := v6) (ci := 8) (as := [.int x2]) (st := []) dX11_settle_90 (c_X7_hasRoomFor l g h v6 x2) rfl km_X7_hasRoomFor (hm_X7_hasRoomFor) rfl (by decide) rfl (fun _ ee => g_X7_hasRoomFor ee) w_methodLink_RainCover_415 w_instanceMethod_RainCover_Table_hasRoomFor__I_Z w_selects_RainCover_Table_RainCover_Table_hasRoomFor__I_Z_RainCover_Table_hasRoomFor__I_Z ⟨⟨by decide, by decide⟩, ⟨by decide, by decide⟩⟩ (Nat.le_of_ble_eq_true rfl) (fun v7 => ?_)
    refine a_if_ne 99 dX11_settle_93 (by decide) (fun c8 => ?_) (fun c8 => ?_)
    · refine a_bipush (v := (-4)) dX11_settle_96 (by decide) ?_
      exact a_iret dX11_settle_98 rfl rfl (by decide) (by decide)
    · refine a_iconst (v := 0) dX11_settle_99 (by decide) ?_
      refine a_istore_n (lc2 := [(3, .int 0), (0, .ref x0), (1, .int x1), (2, .int x2)]) dX11_settle_100 rfl (by decide) rfl ?_
      refine a_pick (lc2 := [(0, .ref x0), (1, .int x1), (2, .int x2), (3, .int 0)]) [1, 2, 3, 0] rfl ?_
      exact t_X11_settle_b101 h0 N N h x0 x1 x2 0
  · refine a_aload_n dX11_settle_24 rfl 0 rfl ?_
    refine a_getr kc12 2 dX11_settle_25 (by decide) rfl w_fieldLink_RainCover_21 (fun v9 => ?_)
    refine a_iload_n dX11_settle_28 rfl 3 rfl ?_
    refine a_cV_Pr (r := v9) (ci := 0) (as := [.int x3]) (st := []) dX11_settle_29 (c_Jx4a65c_get_915e3 l g h v9 x3) rfl km_Jx4a65c_get_915e3 (hm_Jx4a65c_get_915e3) rfl (by decide) rfl (fun _ ee => g_Jx4a65c_get_915e3 ee) w_methodLink_RainCover_124 w_instanceMethod_java_util_ArrayList_get__I_Ljava_lang_Object_ w_selects_java_util_ArrayList_java_util_ArrayList_get__I_Ljava_lang_Object__java_util_ArrayList_get__I_Ljava_lang_Object_ ⟨⟨by decide, by decide⟩, ⟨by decide, by decide⟩⟩ (Nat.le_of_ble_eq_true rfl) (fun v10 => ?_)
    refine a_cast kc3 dX11_settle_32 w_classLink_RainCover_233 ?_
    refine a_astore (lc2 := [(4, .ref v10), (0, .ref x0), (1, .int x1), (2, .int x2), (3, .int x3)]) dX11_settle_35 (by decide) rfl ?_
    refine a_aload_n dX11_settle_37 rfl 1 rfl ?_
    refine a_getr kc12 19 dX11_settle_38 (by decide) rfl w_fieldLink_RainCover_93 (fun v11 => ?_)
    refine a_iload_n dX11_settle_41 rfl 4 rfl ?_
    refine a_aload_n dX11_settle_42 rfl 1 rfl ?_
    refine a_aload dX11_settle_43 0 rfl ?_
    refine a_iload_n dX11_settle_45 rfl 2 rfl ?_
    refine a_aload_n dX11_settle_46 rfl 1 rfl ?_
    refine a_cV_Pi (r := x0) (ci := 12) (as := []) (st := [.int x1, .ref v10, .ref x0, .int x3, .ref v11]) dX11_settle_47 (c_X11_now l g h x0) rfl km_X11_now (hm_X11_now) rfl (by decide) rfl (fun _ ee => g_X11_now ee) w_methodLink_RainCover_179 w_instanceMethod_RainCover_now___I w_selects_RainCover_RainCover_now___I_RainCover_now___I ⟨⟨by decide, by decide⟩, ⟨by decide, by decide⟩⟩ (Nat.le_of_ble_eq_true rfl) (fun v12 => ?_)
    refine a_cV_Si (r := x0) (ci := 12) (as := [.ref v10, .int x1, .int v12]) (st := [.int x3, .ref v11]) dX11_settle_50 (c_X11_dueOf l g h N x0 v10 x1 v12) rfl km_X11_dueOf (hm_X11_dueOf) rfl (by decide) rfl (fun _ ee => g_X11_dueOf ee) w_methodLink_RainCover_292 w_instanceMethod_RainCover_dueOf__LRainCover_Farm_II_I w_selects_RainCover_RainCover_dueOf__LRainCover_Farm_II_I_RainCover_dueOf__LRainCover_Farm_II_I ⟨⟨by decide, by decide⟩, ⟨by decide, by decide⟩⟩ (Nat.le_of_ble_eq_true rfl) (fun q13 => ?_)
    refine a_aload dX11_settle_53 0 rfl ?_
    refine a_getr kc3 5 dX11_settle_55 (by decide) rfl w_fieldLink_RainCover_289 (fun v14 => ?_)
    refine a_iload_n dX11_settle_58 rfl 2 rfl ?_
    refine a_iald dX11_settle_59 (fun v15 => ?_)
    refine a_isub dX11_settle_60 ?_
    refine a_iast dX11_settle_61 (fun h16 => ?_)
    refine a_aload_n dX11_settle_62 rfl 1 rfl ?_
    refine a_getr kc12 19 dX11_settle_63 (by decide) rfl w_fieldLink_RainCover_93 (fun v17 => ?_)
    refine a_iload_n dX11_settle_66 rfl 4 rfl ?_
    refine a_iald dX11_settle_67 (fun v18 => ?_)
    refine a_aload dX11_settle_68 0 rfl ?_
    refine a_geti kc3 6 dX11_settle_70 (by decide) rfl w_fieldLink_RainCover_412 (fun v19 => ?_)
    refine a_icmp_le 79 dX11_settle_73 (by decide) (fun c20 => ?_) (fun c20 => ?_)
    · refine a_pick (lc2 := [(0, .ref x0), (1, .int x1), (2, .int x2), (3, .int x3)]) [1, 2, 3, 4] rfl ?_
      exact t_X11_settle_b79 h0 N K13 hK13 h16 x0 x1 x2 x3
    · refine a_iinc (q := 3) (v := (x2 + 1)) (lc2 := [(2, .int (x2 + 1)), (4, .ref v10), (0, .ref x0), (1, .int x1), (3, .int x3)]) dX11_settle_76 rfl rfl (by decide) rfl ?_
      refine a_pick (lc2 := [(0, .ref x0), (1, .int x1), (2, .int (x2 + 1)), (3, .int x3)]) [2, 3, 0, 4] rfl ?_
      exact t_X11_settle_b79 h0 N K13 hK13 h16 x0 x1 (x2 + 1) x3
set_option maxRecDepth 100000 in
set_option maxHeartbeats 4000000 in
theorem t_X11_settle_b13 (h0 : AH) (N : Nat) : ∀ (n : Nat) (h : AH) (x0 : Nat) (x1 : Int32) (x2 : Int32) (x3 : Int32) , AO l g M_X11_settle false h0 13 [(0, .ref x0), (1, .int x1), (2, .int x2), (3, .int x3)] [] h 0 0 rSi (f_X11_settle_b13 N  n h x0 x1 x2 x3) := by
  intro n
  induction n with
  | zero => intro h x0 x1 x2 x3; exact a_eq rfl a_none
  | succ n ih => intro h x0 x1 x2 x3; exact a_eq rfl (t_X11_settle_b13_body h0 N  (f_X11_settle_b13 N  n) ih h x0 x1 x2 x3)
end
set_option maxRecDepth 100000 in
set_option maxHeartbeats 4000000 in
theorem c_X11_settle (l : Launch) (g : GG) (h0 : AH) (N : Nat) (p0 : Nat) (p1 : Int32) : CN l g yX11_settle M_X11_settle false [.ref p0, .int p1] h0 rSi (f_X11_settle h0 N p0 p1) := by
  refine CN.of (by decide) rfl (fun hh => by first | rfl | cases hh) (Nat.le_of_ble_eq_true rfl) ?_
  unfold f_X11_settle
  refine a_gd (fun hkd => ?_)
  refine a_iload_n dX11_settle_0 rfl 1 rfl ?_
  refine a_cS_Pi (as := [.int p1]) (st := []) dX11_settle_1 (c_X11_isSeason l g h0 p1) rfl km_X11_isSeason (hm_X11_isSeason) w_methodLink_RainCover_100 w_static_RainCover_isSeason__I_Z ⟨⟨by decide, by decide⟩, ⟨by decide, by decide⟩⟩ (Nat.le_of_ble_eq_true rfl) (fun v1 => ?_)
  refine a_if_ne 9 dX11_settle_4 (by decide) (fun c2 => ?_) (fun c2 => ?_)
  · refine a_iconst (v := (-1)) dX11_settle_7 (by decide) ?_
    exact a_iret dX11_settle_8 rfl rfl (by decide) (by decide)
  · refine a_iconst (v := 0) dX11_settle_9 (by decide) ?_
    refine a_istore_n (lc2 := [(2, .int 0), (0, .ref p0), (1, .int p1)]) dX11_settle_10 rfl (by decide) rfl ?_
    refine a_iconst (v := 0) dX11_settle_11 (by decide) ?_
    refine a_istore_n (lc2 := [(3, .int 0), (2, .int 0), (0, .ref p0), (1, .int p1)]) dX11_settle_12 rfl (by decide) rfl ?_
    refine a_pick (lc2 := [(0, .ref p0), (1, .int p1), (2, .int 0), (3, .int 0)]) [2, 3, 1, 0] rfl ?_
    exact t_X11_settle_b13 h0 N N h0 p0 p1 0 0
theorem dX7_has_0 : decode cX7_has 0 = .ok (.iload_n 1, 1) := by decide +kernel
theorem dX7_has_1 : decode cX7_has 1 = .ok (.iconst 0, 1) := by decide +kernel
theorem dX7_has_2 : decode cX7_has 2 = .ok (.aload_n 0, 1) := by decide +kernel
theorem dX7_has_3 : decode cX7_has 3 = .ok (.getfield 9, 3) := by decide +kernel
theorem dX7_has_6 : decode cX7_has 6 = .ok (.iconst 1, 1) := by decide +kernel
theorem dX7_has_7 : decode cX7_has 7 = .ok (.isub, 1) := by decide +kernel
theorem dX7_has_8 : decode cX7_has 8 = .ok (.invokestatic 25, 3) := by decide +kernel
theorem dX7_has_11 : decode cX7_has 11 = .ok (.ireturn, 1) := by decide +kernel
abbrev M_X7_has : MI := (RX7, cX7_has, 2, (some .boolean), ({ frames := 1, cells := 0, slots := 0, locals := 22 } : Room), 0, 0, false)
def f_X7_has (h : AH) (p0 : Nat) (p1 : Int32) : Option Int32 := if kd h p0 = 8 + 1 then (xgi h p0 8 3).bind fun v1 => (f_X11_within h p1 0 (v1 - 1)).bind fun v2 => (if v2 = 0 ∨ v2 = 1 then some v2 else none) else none
theorem g_X7_has {h : AH} {p0 : Nat} {p1 : Int32} {x : Int32} (e : f_X7_has h p0 p1 = some x) : kd h p0 = 8 + 1 := by
  unfold f_X7_has at e
  by_cases hk : kd h p0 = 8 + 1
  · exact hk
  · rw [if_neg hk] at e
    cases e
theorem km_X7_has : KM yX7_has M_X7_has 1 := ⟨in_tb 1006 (by decide +kernel) rfl, in_tb 7 (by decide +kernel) rfl, by decide +kernel, rfl, rfl⟩
theorem hm_X7_has : M_X7_has.2.2.2.2.2.1 = 0 ∧ M_X7_has.2.2.2.2.2.2.1 = 0 := ⟨rfl, rfl⟩
section
variable {l : Launch} {g : GG}
end
set_option maxRecDepth 100000 in
set_option maxHeartbeats 4000000 in
theorem c_X7_has (l : Launch) (g : GG) (h : AH) (p0 : Nat) (p1 : Int32) : CN l g yX7_has M_X7_has false [.ref p0, .int p1] h ((rPi h)) (f_X7_has h p0 p1) := by
  refine CN.of (by decide) rfl (fun hh => by first | rfl | cases hh) (Nat.le_of_ble_eq_true rfl) ?_
  unfold f_X7_has
  refine a_gd (fun hkd => ?_)
  refine a_iload_n dX7_has_0 rfl 1 rfl ?_
  refine a_iconst (v := 0) dX7_has_1 (by decide) ?_
  refine a_aload_n dX7_has_2 rfl 0 rfl ?_
  refine a_geti kc8 3 dX7_has_3 (by decide) rfl w_fieldLink_RainCover_Table_9 (fun v1 => ?_)
  refine a_iconst (v := 1) dX7_has_6 (by decide) ?_
  refine a_isub dX7_has_7 ?_
  refine a_cSN_Pi (as := [.int p1, .int 0, .int (v1 - 1)]) (st := []) dX7_has_8 (c_X11_within l g h p1 0 (v1 - 1)) rfl km_X11_within (hm_X11_within) (host := "RainCover") (by decide +kernel) w_static_RainCover_within__III_Z ⟨⟨by decide, by decide⟩, ⟨by decide, by decide⟩⟩ (Nat.le_of_ble_eq_true rfl) (fun v2 => ?_)
  exact a_gd (fun c3 => a_zret dX7_has_11 rfl c3 rfl (by decide) (by decide))
theorem dX11_payment_0 : decode cX11_payment 0 = .ok (.aload_n 0, 1) := by decide +kernel
theorem dX11_payment_1 : decode cX11_payment 1 = .ok (.getfield 60, 3) := by decide +kernel
theorem dX11_payment_4 : decode cX11_payment 4 = .ok (.iload_n 1, 1) := by decide +kernel
theorem dX11_payment_5 : decode cX11_payment 5 = .ok (.invokevirtual 420, 3) := by decide +kernel
theorem dX11_payment_8 : decode cX11_payment 8 = .ok (.ifCond .eq 24, 3) := by decide +kernel
theorem dX11_payment_11 : decode cX11_payment 11 = .ok (.iload_n 2, 1) := by decide +kernel
theorem dX11_payment_12 : decode cX11_payment 12 = .ok (.iconst 0, 1) := by decide +kernel
theorem dX11_payment_13 : decode cX11_payment 13 = .ok (.iconst 3, 1) := by decide +kernel
theorem dX11_payment_14 : decode cX11_payment 14 = .ok (.invokestatic 120, 3) := by decide +kernel
theorem dX11_payment_17 : decode cX11_payment 17 = .ok (.ifCond .eq 15, 3) := by decide +kernel
theorem dX11_payment_20 : decode cX11_payment 20 = .ok (.aload_n 0, 1) := by decide +kernel
theorem dX11_payment_21 : decode cX11_payment 21 = .ok (.getfield 60, 3) := by decide +kernel
theorem dX11_payment_24 : decode cX11_payment 24 = .ok (.iload_n 1, 1) := by decide +kernel
theorem dX11_payment_25 : decode cX11_payment 25 = .ok (.iload_n 2, 1) := by decide +kernel
theorem dX11_payment_26 : decode cX11_payment 26 = .ok (.invokevirtual 266, 3) := by decide +kernel
theorem dX11_payment_29 : decode cX11_payment 29 = .ok (.goto 5, 3) := by decide +kernel
theorem dX11_payment_32 : decode cX11_payment 32 = .ok (.bipush (-5), 2) := by decide +kernel
theorem dX11_payment_34 : decode cX11_payment 34 = .ok (.ireturn, 1) := by decide +kernel
abbrev M_X11_payment : MI := (RX11, cX11_payment, 3, (some .int), ({ frames := 2, cells := 0, slots := 0, locals := 43 } : Room), 0, 0, false)
def f_X11_payment (h : AH) (p0 : Nat) (p1 : Int32) (p2 : Int32) : Option Int32 := if kd h p0 = 12 + 1 then (xgr h p0 12 10).bind fun v1 => (f_X7_has h v1 p1).bind fun v2 => (if v2 = 0 then some (-5) else (f_X11_within h p2 0 3).bind fun v4 => (if v4 = 0 then some (-5) else (xgr h p0 12 10).bind fun v6 => (f_X7_at h v6 p1 p2).bind fun v7 => some v7)) else none
theorem g_X11_payment {h : AH} {p0 : Nat} {p1 : Int32} {p2 : Int32} {x : Int32} (e : f_X11_payment h p0 p1 p2 = some x) : kd h p0 = 12 + 1 := by
  unfold f_X11_payment at e
  by_cases hk : kd h p0 = 12 + 1
  · exact hk
  · rw [if_neg hk] at e
    cases e
theorem km_X11_payment : KM yX11_payment M_X11_payment 2 := ⟨in_tb 1002 (by decide +kernel) rfl, in_tb 1 (by decide +kernel) rfl, by decide +kernel, rfl, rfl⟩
theorem hm_X11_payment : M_X11_payment.2.2.2.2.2.1 = 0 ∧ M_X11_payment.2.2.2.2.2.2.1 = 0 := ⟨rfl, rfl⟩
section
variable {l : Launch} {g : GG}
end
set_option maxRecDepth 100000 in
set_option maxHeartbeats 4000000 in
theorem c_X11_payment (l : Launch) (g : GG) (h : AH) (p0 : Nat) (p1 : Int32) (p2 : Int32) : CN l g yX11_payment M_X11_payment false [.ref p0, .int p1, .int p2] h ((rPi h)) (f_X11_payment h p0 p1 p2) := by
  refine CN.of (by decide) rfl (fun hh => by first | rfl | cases hh) (Nat.le_of_ble_eq_true rfl) ?_
  unfold f_X11_payment
  refine a_gd (fun hkd => ?_)
  refine a_aload_n dX11_payment_0 rfl 0 rfl ?_
  refine a_getr kc12 10 dX11_payment_1 (by decide) rfl w_fieldLink_RainCover_60 (fun v1 => ?_)
  refine a_iload_n dX11_payment_4 rfl 1 rfl ?_
  refine a_cV_Pi (r := v1) (ci := 8) (as := [.int p1]) (st := []) dX11_payment_5 (c_X7_has l g h v1 p1) rfl km_X7_has (hm_X7_has) rfl (by decide) rfl (fun _ ee => g_X7_has ee) w_methodLink_RainCover_420 w_instanceMethod_RainCover_Table_has__I_Z w_selects_RainCover_Table_RainCover_Table_has__I_Z_RainCover_Table_has__I_Z ⟨⟨by decide, by decide⟩, ⟨by decide, by decide⟩⟩ (Nat.le_of_ble_eq_true rfl) (fun v2 => ?_)
  refine a_if_eq 32 dX11_payment_8 (by decide) (fun c3 => ?_) (fun c3 => ?_)
  · refine a_bipush (v := (-5)) dX11_payment_32 (by decide) ?_
    exact a_iret dX11_payment_34 rfl rfl (by decide) (by decide)
  · refine a_iload_n dX11_payment_11 rfl 2 rfl ?_
    refine a_iconst (v := 0) dX11_payment_12 (by decide) ?_
    refine a_iconst (v := 3) dX11_payment_13 (by decide) ?_
    refine a_cS_Pi (as := [.int p2, .int 0, .int 3]) (st := []) dX11_payment_14 (c_X11_within l g h p2 0 3) rfl km_X11_within (hm_X11_within) w_methodLink_RainCover_120 w_static_RainCover_within__III_Z ⟨⟨by decide, by decide⟩, ⟨by decide, by decide⟩⟩ (Nat.le_of_ble_eq_true rfl) (fun v4 => ?_)
    refine a_if_eq 32 dX11_payment_17 (by decide) (fun c5 => ?_) (fun c5 => ?_)
    · refine a_bipush (v := (-5)) dX11_payment_32 (by decide) ?_
      exact a_iret dX11_payment_34 rfl rfl (by decide) (by decide)
    · refine a_aload_n dX11_payment_20 rfl 0 rfl ?_
      refine a_getr kc12 10 dX11_payment_21 (by decide) rfl w_fieldLink_RainCover_60 (fun v6 => ?_)
      refine a_iload_n dX11_payment_24 rfl 1 rfl ?_
      refine a_iload_n dX11_payment_25 rfl 2 rfl ?_
      refine a_cV_Pi (r := v6) (ci := 8) (as := [.int p1, .int p2]) (st := []) dX11_payment_26 (c_X7_at l g h v6 p1 p2) rfl km_X7_at (hm_X7_at) rfl (by decide) rfl (fun _ ee => g_X7_at ee) w_methodLink_RainCover_266 w_instanceMethod_RainCover_Table_at__II_I w_selects_RainCover_Table_RainCover_Table_at__II_I_RainCover_Table_at__II_I ⟨⟨by decide, by decide⟩, ⟨by decide, by decide⟩⟩ (Nat.le_of_ble_eq_true rfl) (fun v7 => ?_)
      refine a_goto 34 dX11_payment_29 (by decide) ?_
      exact a_iret dX11_payment_34 rfl rfl (by decide) (by decide)
theorem dX11_fund_0 : decode cX11_fund 0 = .ok (.iload_n 1, 1) := by decide +kernel
theorem dX11_fund_1 : decode cX11_fund 1 = .ok (.ldc_w 423, 3) := by decide +kernel
theorem dX11_fund_4 : decode cX11_fund 4 = .ok (.ldc_w 424, 3) := by decide +kernel
theorem dX11_fund_7 : decode cX11_fund 7 = .ok (.invokestatic 120, 3) := by decide +kernel
theorem dX11_fund_10 : decode cX11_fund 10 = .ok (.ifCond .ne 6, 3) := by decide +kernel
theorem dX11_fund_13 : decode cX11_fund 13 = .ok (.bipush (-2), 2) := by decide +kernel
theorem dX11_fund_15 : decode cX11_fund 15 = .ok (.ireturn, 1) := by decide +kernel
theorem dX11_fund_16 : decode cX11_fund 16 = .ok (.aload_n 0, 1) := by decide +kernel
theorem dX11_fund_17 : decode cX11_fund 17 = .ok (.getfield 73, 3) := by decide +kernel
theorem dX11_fund_20 : decode cX11_fund 20 = .ok (.i2l, 1) := by decide +kernel
theorem dX11_fund_21 : decode cX11_fund 21 = .ok (.iload_n 1, 1) := by decide +kernel
theorem dX11_fund_22 : decode cX11_fund 22 = .ok (.i2l, 1) := by decide +kernel
theorem dX11_fund_23 : decode cX11_fund 23 = .ok (.ladd, 1) := by decide +kernel
theorem dX11_fund_24 : decode cX11_fund 24 = .ok (.lstore_n 2, 1) := by decide +kernel
theorem dX11_fund_25 : decode cX11_fund 25 = .ok (.lload_n 2, 1) := by decide +kernel
theorem dX11_fund_26 : decode cX11_fund 26 = .ok (.lconst 0, 1) := by decide +kernel
theorem dX11_fund_27 : decode cX11_fund 27 = .ok (.lcmp, 1) := by decide +kernel
theorem dX11_fund_28 : decode cX11_fund 28 = .ok (.ifCond .lt 11, 3) := by decide +kernel
theorem dX11_fund_31 : decode cX11_fund 31 = .ok (.lload_n 2, 1) := by decide +kernel
theorem dX11_fund_32 : decode cX11_fund 32 = .ok (.ldc2_w 425, 3) := by decide +kernel
theorem dX11_fund_35 : decode cX11_fund 35 = .ok (.lcmp, 1) := by decide +kernel
theorem dX11_fund_36 : decode cX11_fund 36 = .ok (.ifCond .le 6, 3) := by decide +kernel
theorem dX11_fund_39 : decode cX11_fund 39 = .ok (.bipush (-2), 2) := by decide +kernel
theorem dX11_fund_41 : decode cX11_fund 41 = .ok (.ireturn, 1) := by decide +kernel
theorem dX11_fund_42 : decode cX11_fund 42 = .ok (.aload_n 0, 1) := by decide +kernel
theorem dX11_fund_43 : decode cX11_fund 43 = .ok (.lload_n 2, 1) := by decide +kernel
theorem dX11_fund_44 : decode cX11_fund 44 = .ok (.l2i, 1) := by decide +kernel
theorem dX11_fund_45 : decode cX11_fund 45 = .ok (.putfield 73, 3) := by decide +kernel
theorem dX11_fund_48 : decode cX11_fund 48 = .ok (.aload_n 0, 1) := by decide +kernel
theorem dX11_fund_49 : decode cX11_fund 49 = .ok (.getfield 73, 3) := by decide +kernel
theorem dX11_fund_52 : decode cX11_fund 52 = .ok (.ireturn, 1) := by decide +kernel
abbrev M_X11_fund : MI := (RX11, cX11_fund, 4, (some .int), ({ frames := 1, cells := 0, slots := 0, locals := 22 } : Room), 0, 0, false)
def f_X11_fund (h0 : AH) (p0 : Nat) (p1 : Int32) : Option (Int32 × AH) := if kd h0 p0 = 12 + 1 then (f_X11_within h0 p1 (-1000000000) 1000000000).bind fun v1 => (if v1 = 0 then some ((-2), h0) else (xgi h0 p0 12 13).bind fun v3 => (if (lg_cmp ((v3 : Int32).toInt64 + (p1 : Int32).toInt64) 0) < 0 then some ((-2), h0) else (if (lg_cmp ((v3 : Int32).toInt64 + (p1 : Int32).toInt64) 2000000000) ≤ 0 then (xpi h0 p0 12 13 (((v3 : Int32).toInt64 + (p1 : Int32).toInt64) : Int64).toInt32).bind fun h6 => (xgi h6 p0 12 13).bind fun v7 => some (v7, h6) else some ((-2), h0)))) else none
theorem g_X11_fund {h0 : AH} {p0 : Nat} {p1 : Int32} {x : (Int32 × AH)} (e : f_X11_fund h0 p0 p1 = some x) : kd h0 p0 = 12 + 1 := by
  unfold f_X11_fund at e
  by_cases hk : kd h0 p0 = 12 + 1
  · exact hk
  · rw [if_neg hk] at e
    cases e
theorem km_X11_fund : KM yX11_fund M_X11_fund 1 := ⟨in_tb 1011 (by decide +kernel) rfl, in_tb 1 (by decide +kernel) rfl, by decide +kernel, rfl, rfl⟩
theorem hm_X11_fund : M_X11_fund.2.2.2.2.2.1 = 0 ∧ M_X11_fund.2.2.2.2.2.2.1 = 0 := ⟨rfl, rfl⟩
section
variable {l : Launch} {g : GG}
end
set_option maxRecDepth 100000 in
set_option maxHeartbeats 4000000 in
theorem c_X11_fund (l : Launch) (g : GG) (h0 : AH) (p0 : Nat) (p1 : Int32) : CN l g yX11_fund M_X11_fund false [.ref p0, .int p1] h0 rSi (f_X11_fund h0 p0 p1) := by
  refine CN.of (by decide) rfl (fun hh => by first | rfl | cases hh) (Nat.le_of_ble_eq_true rfl) ?_
  unfold f_X11_fund
  refine a_gd (fun hkd => ?_)
  refine a_iload_n dX11_fund_0 rfl 1 rfl ?_
  refine a_ldcw (v := (-1000000000)) dX11_fund_1 w_constant_RainCover_423 ?_
  refine a_ldcw (v := 1000000000) dX11_fund_4 w_constant_RainCover_424 ?_
  refine a_cS_Pi (as := [.int p1, .int (-1000000000), .int 1000000000]) (st := []) dX11_fund_7 (c_X11_within l g h0 p1 (-1000000000) 1000000000) rfl km_X11_within (hm_X11_within) w_methodLink_RainCover_120 w_static_RainCover_within__III_Z ⟨⟨by decide, by decide⟩, ⟨by decide, by decide⟩⟩ (Nat.le_of_ble_eq_true rfl) (fun v1 => ?_)
  refine a_if_ne 16 dX11_fund_10 (by decide) (fun c2 => ?_) (fun c2 => ?_)
  · refine a_bipush (v := (-2)) dX11_fund_13 (by decide) ?_
    exact a_iret dX11_fund_15 rfl rfl (by decide) (by decide)
  · refine a_aload_n dX11_fund_16 rfl 0 rfl ?_
    refine a_geti kc12 13 dX11_fund_17 (by decide) rfl w_fieldLink_RainCover_73 (fun v3 => ?_)
    refine a_i2l dX11_fund_20 ?_
    refine a_iload_n dX11_fund_21 rfl 1 rfl ?_
    refine a_i2l dX11_fund_22 ?_
    refine a_ladd dX11_fund_23 ?_
    refine a_lstore_n (lc2 := [(2, .long ((v3 : Int32).toInt64 + (p1 : Int32).toInt64)), (0, .ref p0), (1, .int p1)]) dX11_fund_24 rfl (by decide) rfl ?_
    refine a_lload_n dX11_fund_25 rfl 0 rfl ?_
    refine a_lconst (v := 0) dX11_fund_26 (by decide) ?_
    refine a_lcmp dX11_fund_27 ?_
    refine a_if_lt 39 dX11_fund_28 (by decide) (fun c4 => ?_) (fun c4 => ?_)
    · refine a_bipush (v := (-2)) dX11_fund_39 (by decide) ?_
      exact a_iret dX11_fund_41 rfl rfl (by decide) (by decide)
    · refine a_lload_n dX11_fund_31 rfl 0 rfl ?_
      refine a_ldc2 (v := 2000000000) dX11_fund_32 w_constantLong_RainCover_425 ?_
      refine a_lcmp dX11_fund_35 ?_
      refine a_if_le 42 dX11_fund_36 (by decide) (fun c5 => ?_) (fun c5 => ?_)
      · refine a_aload_n dX11_fund_42 rfl 1 rfl ?_
        refine a_lload_n dX11_fund_43 rfl 0 rfl ?_
        refine a_l2i dX11_fund_44 ?_
        refine a_puti kc12 13 dX11_fund_45 (by decide) rfl w_fieldLink_RainCover_73 rfl rfl (fun h6 => ?_)
        refine a_aload_n dX11_fund_48 rfl 1 rfl ?_
        refine a_geti kc12 13 dX11_fund_49 (by decide) rfl w_fieldLink_RainCover_73 (fun v7 => ?_)
        exact a_iret dX11_fund_52 rfl rfl (by decide) (by decide)
      · refine a_bipush (v := (-2)) dX11_fund_39 (by decide) ?_
        exact a_iret dX11_fund_41 rfl rfl (by decide) (by decide)
theorem dX11_send_0 : decode cX11_send 0 = .ok (.aload_n 0, 1) := by decide +kernel
theorem dX11_send_1 : decode cX11_send 1 = .ok (.getfield 60, 3) := by decide +kernel
theorem dX11_send_4 : decode cX11_send 4 = .ok (.iload_n 1, 1) := by decide +kernel
theorem dX11_send_5 : decode cX11_send 5 = .ok (.invokevirtual 420, 3) := by decide +kernel
theorem dX11_send_8 : decode cX11_send 8 = .ok (.ifCond .ne 5, 3) := by decide +kernel
theorem dX11_send_11 : decode cX11_send 11 = .ok (.iconst (-1), 1) := by decide +kernel
theorem dX11_send_12 : decode cX11_send 12 = .ok (.ireturn, 1) := by decide +kernel
theorem dX11_send_13 : decode cX11_send 13 = .ok (.aload_n 0, 1) := by decide +kernel
theorem dX11_send_14 : decode cX11_send 14 = .ok (.getfield 60, 3) := by decide +kernel
theorem dX11_send_17 : decode cX11_send 17 = .ok (.iload_n 1, 1) := by decide +kernel
theorem dX11_send_18 : decode cX11_send 18 = .ok (.iconst 3, 1) := by decide +kernel
theorem dX11_send_19 : decode cX11_send 19 = .ok (.invokevirtual 266, 3) := by decide +kernel
theorem dX11_send_22 : decode cX11_send 22 = .ok (.istore_n 2, 1) := by decide +kernel
theorem dX11_send_23 : decode cX11_send 23 = .ok (.aload_n 0, 1) := by decide +kernel
theorem dX11_send_24 : decode cX11_send 24 = .ok (.getfield 60, 3) := by decide +kernel
theorem dX11_send_27 : decode cX11_send 27 = .ok (.iload_n 1, 1) := by decide +kernel
theorem dX11_send_28 : decode cX11_send 28 = .ok (.iconst 2, 1) := by decide +kernel
theorem dX11_send_29 : decode cX11_send 29 = .ok (.invokevirtual 266, 3) := by decide +kernel
theorem dX11_send_32 : decode cX11_send 32 = .ok (.istore_n 3, 1) := by decide +kernel
theorem dX11_send_33 : decode cX11_send 33 = .ok (.iload_n 2, 1) := by decide +kernel
theorem dX11_send_34 : decode cX11_send 34 = .ok (.ifCond .eq 8, 3) := by decide +kernel
theorem dX11_send_37 : decode cX11_send 37 = .ok (.iload_n 2, 1) := by decide +kernel
theorem dX11_send_38 : decode cX11_send 38 = .ok (.iconst 2, 1) := by decide +kernel
theorem dX11_send_39 : decode cX11_send 39 = .ok (.if_icmp .ne 11, 3) := by decide +kernel
theorem dX11_send_42 : decode cX11_send 42 = .ok (.iload_n 3, 1) := by decide +kernel
theorem dX11_send_43 : decode cX11_send 43 = .ok (.aload_n 0, 1) := by decide +kernel
theorem dX11_send_44 : decode cX11_send 44 = .ok (.getfield 73, 3) := by decide +kernel
theorem dX11_send_47 : decode cX11_send 47 = .ok (.if_icmp .le 6, 3) := by decide +kernel
theorem dX11_send_50 : decode cX11_send 50 = .ok (.bipush (-3), 2) := by decide +kernel
theorem dX11_send_52 : decode cX11_send 52 = .ok (.ireturn, 1) := by decide +kernel
theorem dX11_send_53 : decode cX11_send 53 = .ok (.aload_n 0, 1) := by decide +kernel
theorem dX11_send_54 : decode cX11_send 54 = .ok (.dup, 1) := by decide +kernel
theorem dX11_send_55 : decode cX11_send 55 = .ok (.getfield 73, 3) := by decide +kernel
theorem dX11_send_58 : decode cX11_send 58 = .ok (.iload_n 3, 1) := by decide +kernel
theorem dX11_send_59 : decode cX11_send 59 = .ok (.isub, 1) := by decide +kernel
theorem dX11_send_60 : decode cX11_send 60 = .ok (.putfield 73, 3) := by decide +kernel
theorem dX11_send_63 : decode cX11_send 63 = .ok (.aload_n 0, 1) := by decide +kernel
theorem dX11_send_64 : decode cX11_send 64 = .ok (.getfield 60, 3) := by decide +kernel
theorem dX11_send_67 : decode cX11_send 67 = .ok (.iload_n 1, 1) := by decide +kernel
theorem dX11_send_68 : decode cX11_send 68 = .ok (.iconst 3, 1) := by decide +kernel
theorem dX11_send_69 : decode cX11_send 69 = .ok (.iconst 1, 1) := by decide +kernel
theorem dX11_send_70 : decode cX11_send 70 = .ok (.invokevirtual 269, 3) := by decide +kernel
theorem dX11_send_73 : decode cX11_send 73 = .ok (.iconst 1, 1) := by decide +kernel
theorem dX11_send_74 : decode cX11_send 74 = .ok (.ireturn, 1) := by decide +kernel
abbrev M_X11_send : MI := (RX11, cX11_send, 4, (some .int), ({ frames := 2, cells := 0, slots := 0, locals := 43 } : Room), 0, 0, false)
def f_X11_send_b42 (h : AH) (x0 : Nat) (x1 : Int32) (x3 : Int32) : Option (Int32 × AH) := (xgi h x0 12 13).bind fun v10 => (if x3 ≤ v10 then (xgi h x0 12 13).bind fun v12 => (xpi h x0 12 13 (v12 - x3)).bind fun h13 => (xgr h13 x0 12 10).bind fun v14 => (f_X7_put h13 v14 x1 3 1).bind fun q15 => some (1, q15) else some ((-3), h))
def f_X11_send (h0 : AH) (p0 : Nat) (p1 : Int32) : Option (Int32 × AH) := if kd h0 p0 = 12 + 1 then (xgr h0 p0 12 10).bind fun v1 => (f_X7_has h0 v1 p1).bind fun v2 => (if v2 = 0 then some ((-1), h0) else (xgr h0 p0 12 10).bind fun v4 => (f_X7_at h0 v4 p1 3).bind fun v5 => (xgr h0 p0 12 10).bind fun v6 => (f_X7_at h0 v6 p1 2).bind fun v7 => (if v5 = 0 then f_X11_send_b42 h0 p0 p1 v7 else (if v5 = 2 then f_X11_send_b42 h0 p0 p1 v7 else some ((-3), h0)))) else none
theorem g_X11_send {h0 : AH} {p0 : Nat} {p1 : Int32} {x : (Int32 × AH)} (e : f_X11_send h0 p0 p1 = some x) : kd h0 p0 = 12 + 1 := by
  unfold f_X11_send at e
  by_cases hk : kd h0 p0 = 12 + 1
  · exact hk
  · rw [if_neg hk] at e
    cases e
theorem km_X11_send : KM yX11_send M_X11_send 1 := ⟨in_tb 1018 (by decide +kernel) rfl, in_tb 1 (by decide +kernel) rfl, by decide +kernel, rfl, rfl⟩
theorem hm_X11_send : M_X11_send.2.2.2.2.2.1 = 0 ∧ M_X11_send.2.2.2.2.2.2.1 = 0 := ⟨rfl, rfl⟩
section
variable {l : Launch} {g : GG}
set_option maxRecDepth 100000 in
set_option maxHeartbeats 4000000 in
theorem t_X11_send_b42 (h0 : AH) (h : AH) (x0 : Nat) (x1 : Int32) (x3 : Int32) : AO l g M_X11_send false h0 42 [(0, .ref x0), (1, .int x1), (3, .int x3)] [] h 0 0 rSi (f_X11_send_b42  h x0 x1 x3) := by
  unfold f_X11_send_b42
  refine a_iload_n dX11_send_42 rfl 2 rfl ?_
  refine a_aload_n dX11_send_43 rfl 0 rfl ?_
  refine a_geti kc12 13 dX11_send_44 (by decide) rfl w_fieldLink_RainCover_73 (fun v10 => ?_)
  refine a_icmp_le 53 dX11_send_47 (by decide) (fun c11 => ?_) (fun c11 => ?_)
  · refine a_aload_n dX11_send_53 rfl 0 rfl ?_
    refine a_dup dX11_send_54 rfl ?_
    refine a_geti kc12 13 dX11_send_55 (by decide) rfl w_fieldLink_RainCover_73 (fun v12 => ?_)
    refine a_iload_n dX11_send_58 rfl 2 rfl ?_
    refine a_isub dX11_send_59 ?_
    refine a_puti kc12 13 dX11_send_60 (by decide) rfl w_fieldLink_RainCover_73 rfl rfl (fun h13 => ?_)
    refine a_aload_n dX11_send_63 rfl 0 rfl ?_
    refine a_getr kc12 10 dX11_send_64 (by decide) rfl w_fieldLink_RainCover_60 (fun v14 => ?_)
    refine a_iload_n dX11_send_67 rfl 1 rfl ?_
    refine a_iconst (v := 3) dX11_send_68 (by decide) ?_
    refine a_iconst (v := 1) dX11_send_69 (by decide) ?_
    refine a_cV_Sv (r := v14) (ci := 8) (as := [.int x1, .int 3, .int 1]) (st := []) dX11_send_70 (c_X7_put l g h13 v14 x1 3 1) rfl km_X7_put (hm_X7_put) rfl (by decide) rfl (fun _ ee => g_X7_put ee) w_methodLink_RainCover_269 w_instanceMethod_RainCover_Table_put__III_V w_selects_RainCover_Table_RainCover_Table_put__III_V_RainCover_Table_put__III_V ⟨⟨by decide, by decide⟩, ⟨by decide, by decide⟩⟩ (Nat.le_of_ble_eq_true rfl) (fun q15 => ?_)
    refine a_iconst (v := 1) dX11_send_73 (by decide) ?_
    exact a_iret dX11_send_74 rfl rfl (by decide) (by decide)
  · refine a_bipush (v := (-3)) dX11_send_50 (by decide) ?_
    exact a_iret dX11_send_52 rfl rfl (by decide) (by decide)
end
set_option maxRecDepth 100000 in
set_option maxHeartbeats 4000000 in
theorem c_X11_send (l : Launch) (g : GG) (h0 : AH) (p0 : Nat) (p1 : Int32) : CN l g yX11_send M_X11_send false [.ref p0, .int p1] h0 rSi (f_X11_send h0 p0 p1) := by
  refine CN.of (by decide) rfl (fun hh => by first | rfl | cases hh) (Nat.le_of_ble_eq_true rfl) ?_
  unfold f_X11_send
  refine a_gd (fun hkd => ?_)
  refine a_aload_n dX11_send_0 rfl 0 rfl ?_
  refine a_getr kc12 10 dX11_send_1 (by decide) rfl w_fieldLink_RainCover_60 (fun v1 => ?_)
  refine a_iload_n dX11_send_4 rfl 1 rfl ?_
  refine a_cV_Pi (r := v1) (ci := 8) (as := [.int p1]) (st := []) dX11_send_5 (c_X7_has l g h0 v1 p1) rfl km_X7_has (hm_X7_has) rfl (by decide) rfl (fun _ ee => g_X7_has ee) w_methodLink_RainCover_420 w_instanceMethod_RainCover_Table_has__I_Z w_selects_RainCover_Table_RainCover_Table_has__I_Z_RainCover_Table_has__I_Z ⟨⟨by decide, by decide⟩, ⟨by decide, by decide⟩⟩ (Nat.le_of_ble_eq_true rfl) (fun v2 => ?_)
  refine a_if_ne 13 dX11_send_8 (by decide) (fun c3 => ?_) (fun c3 => ?_)
  · refine a_iconst (v := (-1)) dX11_send_11 (by decide) ?_
    exact a_iret dX11_send_12 rfl rfl (by decide) (by decide)
  · refine a_aload_n dX11_send_13 rfl 0 rfl ?_
    refine a_getr kc12 10 dX11_send_14 (by decide) rfl w_fieldLink_RainCover_60 (fun v4 => ?_)
    refine a_iload_n dX11_send_17 rfl 1 rfl ?_
    refine a_iconst (v := 3) dX11_send_18 (by decide) ?_
    refine a_cV_Pi (r := v4) (ci := 8) (as := [.int p1, .int 3]) (st := []) dX11_send_19 (c_X7_at l g h0 v4 p1 3) rfl km_X7_at (hm_X7_at) rfl (by decide) rfl (fun _ ee => g_X7_at ee) w_methodLink_RainCover_266 w_instanceMethod_RainCover_Table_at__II_I w_selects_RainCover_Table_RainCover_Table_at__II_I_RainCover_Table_at__II_I ⟨⟨by decide, by decide⟩, ⟨by decide, by decide⟩⟩ (Nat.le_of_ble_eq_true rfl) (fun v5 => ?_)
    refine a_istore_n (lc2 := [(2, .int v5), (0, .ref p0), (1, .int p1)]) dX11_send_22 rfl (by decide) rfl ?_
    refine a_aload_n dX11_send_23 rfl 1 rfl ?_
    refine a_getr kc12 10 dX11_send_24 (by decide) rfl w_fieldLink_RainCover_60 (fun v6 => ?_)
    refine a_iload_n dX11_send_27 rfl 2 rfl ?_
    refine a_iconst (v := 2) dX11_send_28 (by decide) ?_
    refine a_cV_Pi (r := v6) (ci := 8) (as := [.int p1, .int 2]) (st := []) dX11_send_29 (c_X7_at l g h0 v6 p1 2) rfl km_X7_at (hm_X7_at) rfl (by decide) rfl (fun _ ee => g_X7_at ee) w_methodLink_RainCover_266 w_instanceMethod_RainCover_Table_at__II_I w_selects_RainCover_Table_RainCover_Table_at__II_I_RainCover_Table_at__II_I ⟨⟨by decide, by decide⟩, ⟨by decide, by decide⟩⟩ (Nat.le_of_ble_eq_true rfl) (fun v7 => ?_)
    refine a_istore_n (lc2 := [(3, .int v7), (2, .int v5), (0, .ref p0), (1, .int p1)]) dX11_send_32 rfl (by decide) rfl ?_
    refine a_iload_n dX11_send_33 rfl 1 rfl ?_
    refine a_if_eq 42 dX11_send_34 (by decide) (fun c8 => ?_) (fun c8 => ?_)
    · refine a_pick (lc2 := [(0, .ref p0), (1, .int p1), (3, .int v7)]) [2, 3, 0] rfl ?_
      exact t_X11_send_b42 h0 h0 p0 p1 v7
    · refine a_iload_n dX11_send_37 rfl 1 rfl ?_
      refine a_iconst (v := 2) dX11_send_38 (by decide) ?_
      refine a_icmp_ne 50 dX11_send_39 (by decide) (fun c9 => ?_) (fun c9 => ?_)
      · refine a_pick (lc2 := [(0, .ref p0), (1, .int p1), (3, .int v7)]) [2, 3, 0] rfl ?_
        exact t_X11_send_b42 h0 h0 p0 p1 v7
      · refine a_bipush (v := (-3)) dX11_send_50 (by decide) ?_
        exact a_iret dX11_send_52 rfl rfl (by decide) (by decide)
theorem dX11_arrive_0 : decode cX11_arrive 0 = .ok (.aload_n 0, 1) := by decide +kernel
theorem dX11_arrive_1 : decode cX11_arrive 1 = .ok (.getfield 60, 3) := by decide +kernel
theorem dX11_arrive_4 : decode cX11_arrive 4 = .ok (.iload_n 1, 1) := by decide +kernel
theorem dX11_arrive_5 : decode cX11_arrive 5 = .ok (.invokevirtual 420, 3) := by decide +kernel
theorem dX11_arrive_8 : decode cX11_arrive 8 = .ok (.ifCond .ne 5, 3) := by decide +kernel
theorem dX11_arrive_11 : decode cX11_arrive 11 = .ok (.iconst (-1), 1) := by decide +kernel
theorem dX11_arrive_12 : decode cX11_arrive 12 = .ok (.ireturn, 1) := by decide +kernel
theorem dX11_arrive_13 : decode cX11_arrive 13 = .ok (.iload_n 2, 1) := by decide +kernel
theorem dX11_arrive_14 : decode cX11_arrive 14 = .ok (.iconst 0, 1) := by decide +kernel
theorem dX11_arrive_15 : decode cX11_arrive 15 = .ok (.iconst 1, 1) := by decide +kernel
theorem dX11_arrive_16 : decode cX11_arrive 16 = .ok (.invokestatic 120, 3) := by decide +kernel
theorem dX11_arrive_19 : decode cX11_arrive 19 = .ok (.ifCond .ne 6, 3) := by decide +kernel
theorem dX11_arrive_22 : decode cX11_arrive 22 = .ok (.bipush (-2), 2) := by decide +kernel
theorem dX11_arrive_24 : decode cX11_arrive 24 = .ok (.ireturn, 1) := by decide +kernel
theorem dX11_arrive_25 : decode cX11_arrive 25 = .ok (.aload_n 0, 1) := by decide +kernel
theorem dX11_arrive_26 : decode cX11_arrive 26 = .ok (.getfield 60, 3) := by decide +kernel
theorem dX11_arrive_29 : decode cX11_arrive 29 = .ok (.iload_n 1, 1) := by decide +kernel
theorem dX11_arrive_30 : decode cX11_arrive 30 = .ok (.iconst 3, 1) := by decide +kernel
theorem dX11_arrive_31 : decode cX11_arrive 31 = .ok (.invokevirtual 266, 3) := by decide +kernel
theorem dX11_arrive_34 : decode cX11_arrive 34 = .ok (.iconst 1, 1) := by decide +kernel
theorem dX11_arrive_35 : decode cX11_arrive 35 = .ok (.if_icmp .eq 6, 3) := by decide +kernel
theorem dX11_arrive_38 : decode cX11_arrive 38 = .ok (.bipush (-3), 2) := by decide +kernel
theorem dX11_arrive_40 : decode cX11_arrive 40 = .ok (.ireturn, 1) := by decide +kernel
theorem dX11_arrive_41 : decode cX11_arrive 41 = .ok (.iload_n 2, 1) := by decide +kernel
theorem dX11_arrive_42 : decode cX11_arrive 42 = .ok (.ifCond .ne 15, 3) := by decide +kernel
theorem dX11_arrive_45 : decode cX11_arrive 45 = .ok (.aload_n 0, 1) := by decide +kernel
theorem dX11_arrive_46 : decode cX11_arrive 46 = .ok (.getfield 60, 3) := by decide +kernel
theorem dX11_arrive_49 : decode cX11_arrive 49 = .ok (.iload_n 1, 1) := by decide +kernel
theorem dX11_arrive_50 : decode cX11_arrive 50 = .ok (.iconst 3, 1) := by decide +kernel
theorem dX11_arrive_51 : decode cX11_arrive 51 = .ok (.iconst 3, 1) := by decide +kernel
theorem dX11_arrive_52 : decode cX11_arrive 52 = .ok (.invokevirtual 269, 3) := by decide +kernel
theorem dX11_arrive_55 : decode cX11_arrive 55 = .ok (.iconst 1, 1) := by decide +kernel
theorem dX11_arrive_56 : decode cX11_arrive 56 = .ok (.ireturn, 1) := by decide +kernel
theorem dX11_arrive_57 : decode cX11_arrive 57 = .ok (.aload_n 0, 1) := by decide +kernel
theorem dX11_arrive_58 : decode cX11_arrive 58 = .ok (.getfield 60, 3) := by decide +kernel
theorem dX11_arrive_61 : decode cX11_arrive 61 = .ok (.iload_n 1, 1) := by decide +kernel
theorem dX11_arrive_62 : decode cX11_arrive 62 = .ok (.iconst 2, 1) := by decide +kernel
theorem dX11_arrive_63 : decode cX11_arrive 63 = .ok (.invokevirtual 266, 3) := by decide +kernel
theorem dX11_arrive_66 : decode cX11_arrive 66 = .ok (.istore_n 3, 1) := by decide +kernel
theorem dX11_arrive_67 : decode cX11_arrive 67 = .ok (.iload_n 3, 1) := by decide +kernel
theorem dX11_arrive_68 : decode cX11_arrive 68 = .ok (.ldc_w 400, 3) := by decide +kernel
theorem dX11_arrive_71 : decode cX11_arrive 71 = .ok (.aload_n 0, 1) := by decide +kernel
theorem dX11_arrive_72 : decode cX11_arrive 72 = .ok (.getfield 73, 3) := by decide +kernel
theorem dX11_arrive_75 : decode cX11_arrive 75 = .ok (.isub, 1) := by decide +kernel
theorem dX11_arrive_76 : decode cX11_arrive 76 = .ok (.if_icmp .le 6, 3) := by decide +kernel
theorem dX11_arrive_79 : decode cX11_arrive 79 = .ok (.bipush (-3), 2) := by decide +kernel
theorem dX11_arrive_81 : decode cX11_arrive 81 = .ok (.ireturn, 1) := by decide +kernel
theorem dX11_arrive_82 : decode cX11_arrive 82 = .ok (.aload_n 0, 1) := by decide +kernel
theorem dX11_arrive_83 : decode cX11_arrive 83 = .ok (.dup, 1) := by decide +kernel
theorem dX11_arrive_84 : decode cX11_arrive 84 = .ok (.getfield 73, 3) := by decide +kernel
theorem dX11_arrive_87 : decode cX11_arrive 87 = .ok (.iload_n 3, 1) := by decide +kernel
theorem dX11_arrive_88 : decode cX11_arrive 88 = .ok (.iadd, 1) := by decide +kernel
theorem dX11_arrive_89 : decode cX11_arrive 89 = .ok (.putfield 73, 3) := by decide +kernel
theorem dX11_arrive_92 : decode cX11_arrive 92 = .ok (.aload_n 0, 1) := by decide +kernel
theorem dX11_arrive_93 : decode cX11_arrive 93 = .ok (.getfield 60, 3) := by decide +kernel
theorem dX11_arrive_96 : decode cX11_arrive 96 = .ok (.iload_n 1, 1) := by decide +kernel
theorem dX11_arrive_97 : decode cX11_arrive 97 = .ok (.iconst 3, 1) := by decide +kernel
theorem dX11_arrive_98 : decode cX11_arrive 98 = .ok (.iconst 2, 1) := by decide +kernel
theorem dX11_arrive_99 : decode cX11_arrive 99 = .ok (.invokevirtual 269, 3) := by decide +kernel
theorem dX11_arrive_102 : decode cX11_arrive 102 = .ok (.iconst 1, 1) := by decide +kernel
theorem dX11_arrive_103 : decode cX11_arrive 103 = .ok (.ireturn, 1) := by decide +kernel
abbrev M_X11_arrive : MI := (RX11, cX11_arrive, 4, (some .int), ({ frames := 2, cells := 0, slots := 0, locals := 43 } : Room), 0, 0, false)
def f_X11_arrive (h0 : AH) (p0 : Nat) (p1 : Int32) (p2 : Int32) : Option (Int32 × AH) := if kd h0 p0 = 12 + 1 then (xgr h0 p0 12 10).bind fun v1 => (f_X7_has h0 v1 p1).bind fun v2 => (if v2 = 0 then some ((-1), h0) else (f_X11_within h0 p2 0 1).bind fun v4 => (if v4 = 0 then some ((-2), h0) else (xgr h0 p0 12 10).bind fun v6 => (f_X7_at h0 v6 p1 3).bind fun v7 => (if v7 = 1 then (if p2 = 0 then (xgr h0 p0 12 10).bind fun v10 => (f_X7_put h0 v10 p1 3 3).bind fun q11 => some (1, q11) else (xgr h0 p0 12 10).bind fun v12 => (f_X7_at h0 v12 p1 2).bind fun v13 => (xgi h0 p0 12 13).bind fun v14 => (if v13 ≤ (2000000000 - v14) then (xgi h0 p0 12 13).bind fun v16 => (xpi h0 p0 12 13 (v16 + v13)).bind fun h17 => (xgr h17 p0 12 10).bind fun v18 => (f_X7_put h17 v18 p1 3 2).bind fun q19 => some (1, q19) else some ((-3), h0))) else some ((-3), h0)))) else none
theorem g_X11_arrive {h0 : AH} {p0 : Nat} {p1 : Int32} {p2 : Int32} {x : (Int32 × AH)} (e : f_X11_arrive h0 p0 p1 p2 = some x) : kd h0 p0 = 12 + 1 := by
  unfold f_X11_arrive at e
  by_cases hk : kd h0 p0 = 12 + 1
  · exact hk
  · rw [if_neg hk] at e
    cases e
theorem km_X11_arrive : KM yX11_arrive M_X11_arrive 2 := ⟨in_tb 1022 (by decide +kernel) rfl, in_tb 1 (by decide +kernel) rfl, by decide +kernel, rfl, rfl⟩
theorem hm_X11_arrive : M_X11_arrive.2.2.2.2.2.1 = 0 ∧ M_X11_arrive.2.2.2.2.2.2.1 = 0 := ⟨rfl, rfl⟩
section
variable {l : Launch} {g : GG}
end
set_option maxRecDepth 100000 in
set_option maxHeartbeats 4000000 in
theorem c_X11_arrive (l : Launch) (g : GG) (h0 : AH) (p0 : Nat) (p1 : Int32) (p2 : Int32) : CN l g yX11_arrive M_X11_arrive false [.ref p0, .int p1, .int p2] h0 rSi (f_X11_arrive h0 p0 p1 p2) := by
  refine CN.of (by decide) rfl (fun hh => by first | rfl | cases hh) (Nat.le_of_ble_eq_true rfl) ?_
  unfold f_X11_arrive
  refine a_gd (fun hkd => ?_)
  refine a_aload_n dX11_arrive_0 rfl 0 rfl ?_
  refine a_getr kc12 10 dX11_arrive_1 (by decide) rfl w_fieldLink_RainCover_60 (fun v1 => ?_)
  refine a_iload_n dX11_arrive_4 rfl 1 rfl ?_
  refine a_cV_Pi (r := v1) (ci := 8) (as := [.int p1]) (st := []) dX11_arrive_5 (c_X7_has l g h0 v1 p1) rfl km_X7_has (hm_X7_has) rfl (by decide) rfl (fun _ ee => g_X7_has ee) w_methodLink_RainCover_420 w_instanceMethod_RainCover_Table_has__I_Z w_selects_RainCover_Table_RainCover_Table_has__I_Z_RainCover_Table_has__I_Z ⟨⟨by decide, by decide⟩, ⟨by decide, by decide⟩⟩ (Nat.le_of_ble_eq_true rfl) (fun v2 => ?_)
  refine a_if_ne 13 dX11_arrive_8 (by decide) (fun c3 => ?_) (fun c3 => ?_)
  · refine a_iconst (v := (-1)) dX11_arrive_11 (by decide) ?_
    exact a_iret dX11_arrive_12 rfl rfl (by decide) (by decide)
  · refine a_iload_n dX11_arrive_13 rfl 2 rfl ?_
    refine a_iconst (v := 0) dX11_arrive_14 (by decide) ?_
    refine a_iconst (v := 1) dX11_arrive_15 (by decide) ?_
    refine a_cS_Pi (as := [.int p2, .int 0, .int 1]) (st := []) dX11_arrive_16 (c_X11_within l g h0 p2 0 1) rfl km_X11_within (hm_X11_within) w_methodLink_RainCover_120 w_static_RainCover_within__III_Z ⟨⟨by decide, by decide⟩, ⟨by decide, by decide⟩⟩ (Nat.le_of_ble_eq_true rfl) (fun v4 => ?_)
    refine a_if_ne 25 dX11_arrive_19 (by decide) (fun c5 => ?_) (fun c5 => ?_)
    · refine a_bipush (v := (-2)) dX11_arrive_22 (by decide) ?_
      exact a_iret dX11_arrive_24 rfl rfl (by decide) (by decide)
    · refine a_aload_n dX11_arrive_25 rfl 0 rfl ?_
      refine a_getr kc12 10 dX11_arrive_26 (by decide) rfl w_fieldLink_RainCover_60 (fun v6 => ?_)
      refine a_iload_n dX11_arrive_29 rfl 1 rfl ?_
      refine a_iconst (v := 3) dX11_arrive_30 (by decide) ?_
      refine a_cV_Pi (r := v6) (ci := 8) (as := [.int p1, .int 3]) (st := []) dX11_arrive_31 (c_X7_at l g h0 v6 p1 3) rfl km_X7_at (hm_X7_at) rfl (by decide) rfl (fun _ ee => g_X7_at ee) w_methodLink_RainCover_266 w_instanceMethod_RainCover_Table_at__II_I w_selects_RainCover_Table_RainCover_Table_at__II_I_RainCover_Table_at__II_I ⟨⟨by decide, by decide⟩, ⟨by decide, by decide⟩⟩ (Nat.le_of_ble_eq_true rfl) (fun v7 => ?_)
      refine a_iconst (v := 1) dX11_arrive_34 (by decide) ?_
      refine a_icmp_eq 41 dX11_arrive_35 (by decide) (fun c8 => ?_) (fun c8 => ?_)
      · refine a_iload_n dX11_arrive_41 rfl 2 rfl ?_
        refine a_if_ne 57 dX11_arrive_42 (by decide) (fun c9 => ?_) (fun c9 => ?_)
        · refine a_aload_n dX11_arrive_45 rfl 0 rfl ?_
          refine a_getr kc12 10 dX11_arrive_46 (by decide) rfl w_fieldLink_RainCover_60 (fun v10 => ?_)
          refine a_iload_n dX11_arrive_49 rfl 1 rfl ?_
          refine a_iconst (v := 3) dX11_arrive_50 (by decide) ?_
          refine a_iconst (v := 3) dX11_arrive_51 (by decide) ?_
          refine a_cV_Sv (r := v10) (ci := 8) (as := [.int p1, .int 3, .int 3]) (st := []) dX11_arrive_52 (c_X7_put l g h0 v10 p1 3 3) rfl km_X7_put (hm_X7_put) rfl (by decide) rfl (fun _ ee => g_X7_put ee) w_methodLink_RainCover_269 w_instanceMethod_RainCover_Table_put__III_V w_selects_RainCover_Table_RainCover_Table_put__III_V_RainCover_Table_put__III_V ⟨⟨by decide, by decide⟩, ⟨by decide, by decide⟩⟩ (Nat.le_of_ble_eq_true rfl) (fun q11 => ?_)
          refine a_iconst (v := 1) dX11_arrive_55 (by decide) ?_
          exact a_iret dX11_arrive_56 rfl rfl (by decide) (by decide)
        · refine a_aload_n dX11_arrive_57 rfl 0 rfl ?_
          refine a_getr kc12 10 dX11_arrive_58 (by decide) rfl w_fieldLink_RainCover_60 (fun v12 => ?_)
          refine a_iload_n dX11_arrive_61 rfl 1 rfl ?_
          refine a_iconst (v := 2) dX11_arrive_62 (by decide) ?_
          refine a_cV_Pi (r := v12) (ci := 8) (as := [.int p1, .int 2]) (st := []) dX11_arrive_63 (c_X7_at l g h0 v12 p1 2) rfl km_X7_at (hm_X7_at) rfl (by decide) rfl (fun _ ee => g_X7_at ee) w_methodLink_RainCover_266 w_instanceMethod_RainCover_Table_at__II_I w_selects_RainCover_Table_RainCover_Table_at__II_I_RainCover_Table_at__II_I ⟨⟨by decide, by decide⟩, ⟨by decide, by decide⟩⟩ (Nat.le_of_ble_eq_true rfl) (fun v13 => ?_)
          refine a_istore_n (lc2 := [(3, .int v13), (0, .ref p0), (1, .int p1), (2, .int p2)]) dX11_arrive_66 rfl (by decide) rfl ?_
          refine a_iload_n dX11_arrive_67 rfl 0 rfl ?_
          refine a_ldcw (v := 2000000000) dX11_arrive_68 w_constant_RainCover_400 ?_
          refine a_aload_n dX11_arrive_71 rfl 1 rfl ?_
          refine a_geti kc12 13 dX11_arrive_72 (by decide) rfl w_fieldLink_RainCover_73 (fun v14 => ?_)
          refine a_isub dX11_arrive_75 ?_
          refine a_icmp_le 82 dX11_arrive_76 (by decide) (fun c15 => ?_) (fun c15 => ?_)
          · refine a_aload_n dX11_arrive_82 rfl 1 rfl ?_
            refine a_dup dX11_arrive_83 rfl ?_
            refine a_geti kc12 13 dX11_arrive_84 (by decide) rfl w_fieldLink_RainCover_73 (fun v16 => ?_)
            refine a_iload_n dX11_arrive_87 rfl 0 rfl ?_
            refine a_iadd dX11_arrive_88 ?_
            refine a_puti kc12 13 dX11_arrive_89 (by decide) rfl w_fieldLink_RainCover_73 rfl rfl (fun h17 => ?_)
            refine a_aload_n dX11_arrive_92 rfl 1 rfl ?_
            refine a_getr kc12 10 dX11_arrive_93 (by decide) rfl w_fieldLink_RainCover_60 (fun v18 => ?_)
            refine a_iload_n dX11_arrive_96 rfl 2 rfl ?_
            refine a_iconst (v := 3) dX11_arrive_97 (by decide) ?_
            refine a_iconst (v := 2) dX11_arrive_98 (by decide) ?_
            refine a_cV_Sv (r := v18) (ci := 8) (as := [.int p1, .int 3, .int 2]) (st := []) dX11_arrive_99 (c_X7_put l g h17 v18 p1 3 2) rfl km_X7_put (hm_X7_put) rfl (by decide) rfl (fun _ ee => g_X7_put ee) w_methodLink_RainCover_269 w_instanceMethod_RainCover_Table_put__III_V w_selects_RainCover_Table_RainCover_Table_put__III_V_RainCover_Table_put__III_V ⟨⟨by decide, by decide⟩, ⟨by decide, by decide⟩⟩ (Nat.le_of_ble_eq_true rfl) (fun q19 => ?_)
            refine a_iconst (v := 1) dX11_arrive_102 (by decide) ?_
            exact a_iret dX11_arrive_103 rfl rfl (by decide) (by decide)
          · refine a_bipush (v := (-3)) dX11_arrive_79 (by decide) ?_
            exact a_iret dX11_arrive_81 rfl rfl (by decide) (by decide)
      · refine a_bipush (v := (-3)) dX11_arrive_38 (by decide) ?_
        exact a_iret dX11_arrive_40 rfl rfl (by decide) (by decide)
