theorem dX11_complain_0 : decode cX11_complain 0 = .ok (.aload_n 0, 1) := by decide +kernel
theorem dX11_complain_1 : decode cX11_complain 1 = .ok (.iload_n 1, 1) := by decide +kernel
theorem dX11_complain_2 : decode cX11_complain 2 = .ok (.invokevirtual 254, 3) := by decide +kernel
theorem dX11_complain_5 : decode cX11_complain 5 = .ok (.ifCond .eq 10, 3) := by decide +kernel
theorem dX11_complain_8 : decode cX11_complain 8 = .ok (.iload_n 2, 1) := by decide +kernel
theorem dX11_complain_9 : decode cX11_complain 9 = .ok (.invokestatic 100, 3) := by decide +kernel
theorem dX11_complain_12 : decode cX11_complain 12 = .ok (.ifCond .ne 5, 3) := by decide +kernel
theorem dX11_complain_15 : decode cX11_complain 15 = .ok (.iconst (-1), 1) := by decide +kernel
theorem dX11_complain_16 : decode cX11_complain 16 = .ok (.ireturn, 1) := by decide +kernel
theorem dX11_complain_17 : decode cX11_complain 17 = .ok (.aload_n 0, 1) := by decide +kernel
theorem dX11_complain_18 : decode cX11_complain 18 = .ok (.iload_n 1, 1) := by decide +kernel
theorem dX11_complain_19 : decode cX11_complain 19 = .ok (.iload_n 2, 1) := by decide +kernel
theorem dX11_complain_20 : decode cX11_complain 20 = .ok (.invokevirtual 276, 3) := by decide +kernel
theorem dX11_complain_23 : decode cX11_complain 23 = .ok (.istore_n 3, 1) := by decide +kernel
theorem dX11_complain_24 : decode cX11_complain 24 = .ok (.iload_n 3, 1) := by decide +kernel
theorem dX11_complain_25 : decode cX11_complain 25 = .ok (.iconst (-1), 1) := by decide +kernel
theorem dX11_complain_26 : decode cX11_complain 26 = .ok (.if_icmp .eq 16, 3) := by decide +kernel
theorem dX11_complain_29 : decode cX11_complain 29 = .ok (.aload_n 0, 1) := by decide +kernel
theorem dX11_complain_30 : decode cX11_complain 30 = .ok (.getfield 63, 3) := by decide +kernel
theorem dX11_complain_33 : decode cX11_complain 33 = .ok (.iload_n 1, 1) := by decide +kernel
theorem dX11_complain_34 : decode cX11_complain 34 = .ok (.iload_n 2, 1) := by decide +kernel
theorem dX11_complain_35 : decode cX11_complain 35 = .ok (.invokevirtual 324, 3) := by decide +kernel
theorem dX11_complain_38 : decode cX11_complain 38 = .ok (.iconst (-1), 1) := by decide +kernel
theorem dX11_complain_39 : decode cX11_complain 39 = .ok (.if_icmp .eq 6, 3) := by decide +kernel
theorem dX11_complain_42 : decode cX11_complain 42 = .ok (.bipush (-3), 2) := by decide +kernel
theorem dX11_complain_44 : decode cX11_complain 44 = .ok (.ireturn, 1) := by decide +kernel
theorem dX11_complain_45 : decode cX11_complain 45 = .ok (.aload_n 0, 1) := by decide +kernel
theorem dX11_complain_46 : decode cX11_complain 46 = .ok (.getfield 63, 3) := by decide +kernel
theorem dX11_complain_49 : decode cX11_complain 49 = .ok (.invokevirtual 261, 3) := by decide +kernel
theorem dX11_complain_52 : decode cX11_complain 52 = .ok (.ifCond .eq 6, 3) := by decide +kernel
theorem dX11_complain_55 : decode cX11_complain 55 = .ok (.bipush (-4), 2) := by decide +kernel
theorem dX11_complain_57 : decode cX11_complain 57 = .ok (.ireturn, 1) := by decide +kernel
theorem dX11_complain_58 : decode cX11_complain 58 = .ok (.aload_n 0, 1) := by decide +kernel
theorem dX11_complain_59 : decode cX11_complain 59 = .ok (.getfield 63, 3) := by decide +kernel
theorem dX11_complain_62 : decode cX11_complain 62 = .ok (.iload_n 1, 1) := by decide +kernel
theorem dX11_complain_63 : decode cX11_complain 63 = .ok (.iload_n 2, 1) := by decide +kernel
theorem dX11_complain_64 : decode cX11_complain 64 = .ok (.iload_n 3, 1) := by decide +kernel
theorem dX11_complain_65 : decode cX11_complain 65 = .ok (.iconst 0, 1) := by decide +kernel
theorem dX11_complain_66 : decode cX11_complain 66 = .ok (.invokevirtual 264, 3) := by decide +kernel
theorem dX11_complain_69 : decode cX11_complain 69 = .ok (.istore 4, 2) := by decide +kernel
theorem dX11_complain_71 : decode cX11_complain 71 = .ok (.aload_n 0, 1) := by decide +kernel
theorem dX11_complain_72 : decode cX11_complain 72 = .ok (.getfield 63, 3) := by decide +kernel
theorem dX11_complain_75 : decode cX11_complain 75 = .ok (.iload 4, 2) := by decide +kernel
theorem dX11_complain_77 : decode cX11_complain 77 = .ok (.iconst 4, 1) := by decide +kernel
theorem dX11_complain_78 : decode cX11_complain 78 = .ok (.iconst (-1), 1) := by decide +kernel
theorem dX11_complain_79 : decode cX11_complain 79 = .ok (.invokevirtual 269, 3) := by decide +kernel
theorem dX11_complain_82 : decode cX11_complain 82 = .ok (.iload 4, 2) := by decide +kernel
theorem dX11_complain_84 : decode cX11_complain 84 = .ok (.ireturn, 1) := by decide +kernel
abbrev M_X11_complain : MI := (RX11, cX11_complain, 5, (some .int), ({ frames := 3, cells := 0, slots := 0, locals := 68 } : Room), 0, 0, false)
def f_X11_complain (h0 : AH) (N : Nat) (p0 : Nat) (p1 : Int32) (p2 : Int32) : Option (Int32 × AH) := if kd h0 p0 = 12 + 1 then (f_X11_isFarm h0 p0 p1).bind fun v1 => (if v1 = 0 then some ((-1), h0) else (f_X11_isSeason h0 p2).bind fun v3 => (if v3 = 0 then some ((-1), h0) else (f_X11_termOf h0 N p0 p1 p2).bind fun v5 => (if v5 = (-1) then some ((-3), h0) else (xgr h0 p0 12 11).bind fun v7 => (f_X7_find h0 N v7 p1 p2).bind fun v8 => (if v8 = (-1) then (xgr h0 p0 12 11).bind fun v10 => (f_X7_isFull h0 v10).bind fun v11 => (if v11 = 0 then (xgr h0 p0 12 11).bind fun v13 => (f_X7_add h0 v13 p1 p2 v5 0).bind fun q14 => (xgr q14.2 p0 12 11).bind fun v15 => (f_X7_put q14.2 v15 q14.1 4 (-1)).bind fun q16 => some (q14.1, q16) else some ((-4), h0)) else some ((-3), h0))))) else none
theorem g_X11_complain {h0 : AH} {N : Nat} {p0 : Nat} {p1 : Int32} {p2 : Int32} {x : (Int32 × AH)} (e : f_X11_complain h0 N p0 p1 p2 = some x) : kd h0 p0 = 12 + 1 := by
  unfold f_X11_complain at e
  by_cases hk : kd h0 p0 = 12 + 1
  · exact hk
  · rw [if_neg hk] at e
    cases e
theorem km_X11_complain : KM yX11_complain M_X11_complain 2 := ⟨in_tb 1026 (by decide +kernel) rfl, in_tb 1 (by decide +kernel) rfl, by decide +kernel, rfl, rfl⟩
theorem hm_X11_complain : M_X11_complain.2.2.2.2.2.1 = 0 ∧ M_X11_complain.2.2.2.2.2.2.1 = 0 := ⟨rfl, rfl⟩
section
variable {l : Launch} {g : GG}
end
set_option maxRecDepth 100000 in
set_option maxHeartbeats 4000000 in
theorem c_X11_complain (l : Launch) (g : GG) (h0 : AH) (N : Nat) (p0 : Nat) (p1 : Int32) (p2 : Int32) : CN l g yX11_complain M_X11_complain false [.ref p0, .int p1, .int p2] h0 rSi (f_X11_complain h0 N p0 p1 p2) := by
  refine CN.of (by decide) rfl (fun hh => by first | rfl | cases hh) (Nat.le_of_ble_eq_true rfl) ?_
  unfold f_X11_complain
  refine a_gd (fun hkd => ?_)
  refine a_aload_n dX11_complain_0 rfl 0 rfl ?_
  refine a_iload_n dX11_complain_1 rfl 1 rfl ?_
  refine a_cV_Pi (r := p0) (ci := 12) (as := [.int p1]) (st := []) dX11_complain_2 (c_X11_isFarm l g h0 p0 p1) rfl km_X11_isFarm (hm_X11_isFarm) rfl (by decide) rfl (fun _ ee => g_X11_isFarm ee) w_methodLink_RainCover_254 w_instanceMethod_RainCover_isFarm__I_Z w_selects_RainCover_RainCover_isFarm__I_Z_RainCover_isFarm__I_Z ⟨⟨by decide, by decide⟩, ⟨by decide, by decide⟩⟩ (Nat.le_of_ble_eq_true rfl) (fun v1 => ?_)
  refine a_if_eq 15 dX11_complain_5 (by decide) (fun c2 => ?_) (fun c2 => ?_)
  · refine a_iconst (v := (-1)) dX11_complain_15 (by decide) ?_
    exact a_iret dX11_complain_16 rfl rfl (by decide) (by decide)
  · refine a_iload_n dX11_complain_8 rfl 2 rfl ?_
    refine a_cS_Pi (as := [.int p2]) (st := []) dX11_complain_9 (c_X11_isSeason l g h0 p2) rfl km_X11_isSeason (hm_X11_isSeason) w_methodLink_RainCover_100 w_static_RainCover_isSeason__I_Z ⟨⟨by decide, by decide⟩, ⟨by decide, by decide⟩⟩ (Nat.le_of_ble_eq_true rfl) (fun v3 => ?_)
    refine a_if_ne 17 dX11_complain_12 (by decide) (fun c4 => ?_) (fun c4 => ?_)
    · refine a_iconst (v := (-1)) dX11_complain_15 (by decide) ?_
      exact a_iret dX11_complain_16 rfl rfl (by decide) (by decide)
    · refine a_aload_n dX11_complain_17 rfl 0 rfl ?_
      refine a_iload_n dX11_complain_18 rfl 1 rfl ?_
      refine a_iload_n dX11_complain_19 rfl 2 rfl ?_
      refine a_cV_Pi (r := p0) (ci := 12) (as := [.int p1, .int p2]) (st := []) dX11_complain_20 (c_X11_termOf l g h0 N p0 p1 p2) rfl km_X11_termOf (hm_X11_termOf) rfl (by decide) rfl (fun _ ee => g_X11_termOf ee) w_methodLink_RainCover_276 w_instanceMethod_RainCover_termOf__II_I w_selects_RainCover_RainCover_termOf__II_I_RainCover_termOf__II_I ⟨⟨by decide, by decide⟩, ⟨by decide, by decide⟩⟩ (Nat.le_of_ble_eq_true rfl) (fun v5 => ?_)
      refine a_istore_n (lc2 := [(3, .int v5), (0, .ref p0), (1, .int p1), (2, .int p2)]) dX11_complain_23 rfl (by decide) rfl ?_
      refine a_iload_n dX11_complain_24 rfl 0 rfl ?_
      refine a_iconst (v := (-1)) dX11_complain_25 (by decide) ?_
      refine a_icmp_eq 42 dX11_complain_26 (by decide) (fun c6 => ?_) (fun c6 => ?_)
      · refine a_bipush (v := (-3)) dX11_complain_42 (by decide) ?_
        exact a_iret dX11_complain_44 rfl rfl (by decide) (by decide)
      · refine a_aload_n dX11_complain_29 rfl 1 rfl ?_
        refine a_getr kc12 11 dX11_complain_30 (by decide) rfl w_fieldLink_RainCover_63 (fun v7 => ?_)
        refine a_iload_n dX11_complain_33 rfl 2 rfl ?_
        refine a_iload_n dX11_complain_34 rfl 3 rfl ?_
        refine a_cV_Pi (r := v7) (ci := 8) (as := [.int p1, .int p2]) (st := []) dX11_complain_35 (c_X7_find l g h0 N v7 p1 p2) rfl km_X7_find (hm_X7_find) rfl (by decide) rfl (fun _ ee => g_X7_find ee) w_methodLink_RainCover_324 w_instanceMethod_RainCover_Table_find__II_I w_selects_RainCover_Table_RainCover_Table_find__II_I_RainCover_Table_find__II_I ⟨⟨by decide, by decide⟩, ⟨by decide, by decide⟩⟩ (Nat.le_of_ble_eq_true rfl) (fun v8 => ?_)
        refine a_iconst (v := (-1)) dX11_complain_38 (by decide) ?_
        refine a_icmp_eq 45 dX11_complain_39 (by decide) (fun c9 => ?_) (fun c9 => ?_)
        · refine a_aload_n dX11_complain_45 rfl 1 rfl ?_
          refine a_getr kc12 11 dX11_complain_46 (by decide) rfl w_fieldLink_RainCover_63 (fun v10 => ?_)
          refine a_cV_Pi (r := v10) (ci := 8) (as := []) (st := []) dX11_complain_49 (c_X7_isFull l g h0 v10) rfl km_X7_isFull (hm_X7_isFull) rfl (by decide) rfl (fun _ ee => g_X7_isFull ee) w_methodLink_RainCover_261 w_instanceMethod_RainCover_Table_isFull___Z w_selects_RainCover_Table_RainCover_Table_isFull___Z_RainCover_Table_isFull___Z ⟨⟨by decide, by decide⟩, ⟨by decide, by decide⟩⟩ (Nat.le_of_ble_eq_true rfl) (fun v11 => ?_)
          refine a_if_eq 58 dX11_complain_52 (by decide) (fun c12 => ?_) (fun c12 => ?_)
          · refine a_aload_n dX11_complain_58 rfl 1 rfl ?_
            refine a_getr kc12 11 dX11_complain_59 (by decide) rfl w_fieldLink_RainCover_63 (fun v13 => ?_)
            refine a_iload_n dX11_complain_62 rfl 2 rfl ?_
            refine a_iload_n dX11_complain_63 rfl 3 rfl ?_
            refine a_iload_n dX11_complain_64 rfl 0 rfl ?_
            refine a_iconst (v := 0) dX11_complain_65 (by decide) ?_
            refine a_cV_Si (r := v13) (ci := 8) (as := [.int p1, .int p2, .int v5, .int 0]) (st := []) dX11_complain_66 (c_X7_add l g h0 v13 p1 p2 v5 0) rfl km_X7_add (hm_X7_add) rfl (by decide) rfl (fun _ ee => g_X7_add ee) w_methodLink_RainCover_264 w_instanceMethod_RainCover_Table_add__IIII_I w_selects_RainCover_Table_RainCover_Table_add__IIII_I_RainCover_Table_add__IIII_I ⟨⟨by decide, by decide⟩, ⟨by decide, by decide⟩⟩ (Nat.le_of_ble_eq_true rfl) (fun q14 => ?_)
            refine a_istore (lc2 := [(4, .int q14.1), (3, .int v5), (0, .ref p0), (1, .int p1), (2, .int p2)]) dX11_complain_69 (by decide) rfl ?_
            refine a_aload_n dX11_complain_71 rfl 2 rfl ?_
            refine a_getr kc12 11 dX11_complain_72 (by decide) rfl w_fieldLink_RainCover_63 (fun v15 => ?_)
            refine a_iload dX11_complain_75 0 rfl ?_
            refine a_iconst (v := 4) dX11_complain_77 (by decide) ?_
            refine a_iconst (v := (-1)) dX11_complain_78 (by decide) ?_
            refine a_cV_Sv (r := v15) (ci := 8) (as := [.int q14.1, .int 4, .int (-1)]) (st := []) dX11_complain_79 (c_X7_put l g q14.2 v15 q14.1 4 (-1)) rfl km_X7_put (hm_X7_put) rfl (by decide) rfl (fun _ ee => g_X7_put ee) w_methodLink_RainCover_269 w_instanceMethod_RainCover_Table_put__III_V w_selects_RainCover_Table_RainCover_Table_put__III_V_RainCover_Table_put__III_V ⟨⟨by decide, by decide⟩, ⟨by decide, by decide⟩⟩ (Nat.le_of_ble_eq_true rfl) (fun q16 => ?_)
            refine a_iload dX11_complain_82 0 rfl ?_
            exact a_iret dX11_complain_84 rfl rfl (by decide) (by decide)
          · refine a_bipush (v := (-4)) dX11_complain_55 (by decide) ?_
            exact a_iret dX11_complain_57 rfl rfl (by decide) (by decide)
        · refine a_bipush (v := (-3)) dX11_complain_42 (by decide) ?_
          exact a_iret dX11_complain_44 rfl rfl (by decide) (by decide)
theorem dX11_isKin_0 : decode cX11_isKin 0 = .ok (.aload_n 0, 1) := by decide +kernel
theorem dX11_isKin_1 : decode cX11_isKin 1 = .ok (.getfield 63, 3) := by decide +kernel
theorem dX11_isKin_4 : decode cX11_isKin 4 = .ok (.iload_n 1, 1) := by decide +kernel
theorem dX11_isKin_5 : decode cX11_isKin 5 = .ok (.iconst 1, 1) := by decide +kernel
theorem dX11_isKin_6 : decode cX11_isKin 6 = .ok (.invokevirtual 266, 3) := by decide +kernel
theorem dX11_isKin_9 : decode cX11_isKin 9 = .ok (.istore_n 3, 1) := by decide +kernel
theorem dX11_isKin_10 : decode cX11_isKin 10 = .ok (.aload_n 0, 1) := by decide +kernel
theorem dX11_isKin_11 : decode cX11_isKin 11 = .ok (.getfield 57, 3) := by decide +kernel
theorem dX11_isKin_14 : decode cX11_isKin 14 = .ok (.iload_n 2, 1) := by decide +kernel
theorem dX11_isKin_15 : decode cX11_isKin 15 = .ok (.iconst 1, 1) := by decide +kernel
theorem dX11_isKin_16 : decode cX11_isKin 16 = .ok (.invokevirtual 266, 3) := by decide +kernel
theorem dX11_isKin_19 : decode cX11_isKin 19 = .ok (.iload_n 3, 1) := by decide +kernel
theorem dX11_isKin_20 : decode cX11_isKin 20 = .ok (.if_icmp .eq 5, 3) := by decide +kernel
theorem dX11_isKin_23 : decode cX11_isKin 23 = .ok (.iconst 0, 1) := by decide +kernel
theorem dX11_isKin_24 : decode cX11_isKin 24 = .ok (.ireturn, 1) := by decide +kernel
theorem dX11_isKin_25 : decode cX11_isKin 25 = .ok (.aload_n 0, 1) := by decide +kernel
theorem dX11_isKin_26 : decode cX11_isKin 26 = .ok (.aload_n 0, 1) := by decide +kernel
theorem dX11_isKin_27 : decode cX11_isKin 27 = .ok (.getfield 21, 3) := by decide +kernel
theorem dX11_isKin_30 : decode cX11_isKin 30 = .ok (.aload_n 0, 1) := by decide +kernel
theorem dX11_isKin_31 : decode cX11_isKin 31 = .ok (.getfield 63, 3) := by decide +kernel
theorem dX11_isKin_34 : decode cX11_isKin 34 = .ok (.iload_n 1, 1) := by decide +kernel
theorem dX11_isKin_35 : decode cX11_isKin 35 = .ok (.iconst 0, 1) := by decide +kernel
theorem dX11_isKin_36 : decode cX11_isKin 36 = .ok (.invokevirtual 266, 3) := by decide +kernel
theorem dX11_isKin_39 : decode cX11_isKin 39 = .ok (.invokevirtual 124, 3) := by decide +kernel
theorem dX11_isKin_42 : decode cX11_isKin 42 = .ok (.checkcast 233, 3) := by decide +kernel
theorem dX11_isKin_45 : decode cX11_isKin 45 = .ok (.iload_n 3, 1) := by decide +kernel
theorem dX11_isKin_46 : decode cX11_isKin 46 = .ok (.invokevirtual 272, 3) := by decide +kernel
theorem dX11_isKin_49 : decode cX11_isKin 49 = .ok (.istore 4, 2) := by decide +kernel
theorem dX11_isKin_51 : decode cX11_isKin 51 = .ok (.iload 4, 2) := by decide +kernel
theorem dX11_isKin_53 : decode cX11_isKin 53 = .ok (.iconst (-1), 1) := by decide +kernel
theorem dX11_isKin_54 : decode cX11_isKin 54 = .ok (.if_icmp .eq 36, 3) := by decide +kernel
theorem dX11_isKin_57 : decode cX11_isKin 57 = .ok (.iload 4, 2) := by decide +kernel
theorem dX11_isKin_59 : decode cX11_isKin 59 = .ok (.aload_n 0, 1) := by decide +kernel
theorem dX11_isKin_60 : decode cX11_isKin 60 = .ok (.aload_n 0, 1) := by decide +kernel
theorem dX11_isKin_61 : decode cX11_isKin 61 = .ok (.getfield 21, 3) := by decide +kernel
theorem dX11_isKin_64 : decode cX11_isKin 64 = .ok (.aload_n 0, 1) := by decide +kernel
theorem dX11_isKin_65 : decode cX11_isKin 65 = .ok (.getfield 57, 3) := by decide +kernel
theorem dX11_isKin_68 : decode cX11_isKin 68 = .ok (.iload_n 2, 1) := by decide +kernel
theorem dX11_isKin_69 : decode cX11_isKin 69 = .ok (.iconst 0, 1) := by decide +kernel
theorem dX11_isKin_70 : decode cX11_isKin 70 = .ok (.invokevirtual 266, 3) := by decide +kernel
theorem dX11_isKin_73 : decode cX11_isKin 73 = .ok (.invokevirtual 124, 3) := by decide +kernel
theorem dX11_isKin_76 : decode cX11_isKin 76 = .ok (.checkcast 233, 3) := by decide +kernel
theorem dX11_isKin_79 : decode cX11_isKin 79 = .ok (.iload_n 3, 1) := by decide +kernel
theorem dX11_isKin_80 : decode cX11_isKin 80 = .ok (.invokevirtual 272, 3) := by decide +kernel
theorem dX11_isKin_83 : decode cX11_isKin 83 = .ok (.if_icmp .ne 7, 3) := by decide +kernel
theorem dX11_isKin_86 : decode cX11_isKin 86 = .ok (.iconst 1, 1) := by decide +kernel
theorem dX11_isKin_87 : decode cX11_isKin 87 = .ok (.goto 4, 3) := by decide +kernel
theorem dX11_isKin_90 : decode cX11_isKin 90 = .ok (.iconst 0, 1) := by decide +kernel
theorem dX11_isKin_91 : decode cX11_isKin 91 = .ok (.ireturn, 1) := by decide +kernel
abbrev M_X11_isKin : MI := (RX11, cX11_isKin, 5, (some .boolean), ({ frames := 4, cells := 0, slots := 0, locals := 91 } : Room), 0, 0, false)
def f_X11_isKin (h : AH) (N : Nat) (p0 : Nat) (p1 : Int32) (p2 : Int32) : Option Int32 := if kd h p0 = 12 + 1 then (xgr h p0 12 11).bind fun v1 => (f_X7_at h v1 p1 1).bind fun v2 => (xgr h p0 12 9).bind fun v3 => (f_X7_at h v3 p2 1).bind fun v4 => (if v4 = v2 then (xgr h p0 12 2).bind fun v6 => (xgr h p0 12 11).bind fun v7 => (f_X7_at h v7 p1 0).bind fun v8 => (f_Jx4a65c_get_915e3 h v6 v8).bind fun v9 => (xcc h v9 3).bind fun _ => (f_X11_gaugeOf h N p0 v9 v2).bind fun v10 => (if v10 = (-1) then some 0 else (xgr h p0 12 2).bind fun v12 => (xgr h p0 12 9).bind fun v13 => (f_X7_at h v13 p2 0).bind fun v14 => (f_Jx4a65c_get_915e3 h v12 v14).bind fun v15 => (xcc h v15 3).bind fun _ => (f_X11_gaugeOf h N p0 v15 v2).bind fun v16 => (if v10 = v16 then some 1 else some 0)) else some 0) else none
theorem g_X11_isKin {h : AH} {N : Nat} {p0 : Nat} {p1 : Int32} {p2 : Int32} {x : Int32} (e : f_X11_isKin h N p0 p1 p2 = some x) : kd h p0 = 12 + 1 := by
  unfold f_X11_isKin at e
  by_cases hk : kd h p0 = 12 + 1
  · exact hk
  · rw [if_neg hk] at e
    cases e
theorem km_X11_isKin : KM yX11_isKin M_X11_isKin 2 := ⟨in_tb 1034 (by decide +kernel) rfl, in_tb 1 (by decide +kernel) rfl, by decide +kernel, rfl, rfl⟩
theorem hm_X11_isKin : M_X11_isKin.2.2.2.2.2.1 = 0 ∧ M_X11_isKin.2.2.2.2.2.2.1 = 0 := ⟨rfl, rfl⟩
section
variable {l : Launch} {g : GG}
end
set_option maxRecDepth 100000 in
set_option maxHeartbeats 4000000 in
theorem c_X11_isKin (l : Launch) (g : GG) (h : AH) (N : Nat) (p0 : Nat) (p1 : Int32) (p2 : Int32) : CN l g yX11_isKin M_X11_isKin false [.ref p0, .int p1, .int p2] h ((rPi h)) (f_X11_isKin h N p0 p1 p2) := by
  refine CN.of (by decide) rfl (fun hh => by first | rfl | cases hh) (Nat.le_of_ble_eq_true rfl) ?_
  unfold f_X11_isKin
  refine a_gd (fun hkd => ?_)
  refine a_aload_n dX11_isKin_0 rfl 0 rfl ?_
  refine a_getr kc12 11 dX11_isKin_1 (by decide) rfl w_fieldLink_RainCover_63 (fun v1 => ?_)
  refine a_iload_n dX11_isKin_4 rfl 1 rfl ?_
  refine a_iconst (v := 1) dX11_isKin_5 (by decide) ?_
  refine a_cV_Pi (r := v1) (ci := 8) (as := [.int p1, .int 1]) (st := []) dX11_isKin_6 (c_X7_at l g h v1 p1 1) rfl km_X7_at (hm_X7_at) rfl (by decide) rfl (fun _ ee => g_X7_at ee) w_methodLink_RainCover_266 w_instanceMethod_RainCover_Table_at__II_I w_selects_RainCover_Table_RainCover_Table_at__II_I_RainCover_Table_at__II_I ⟨⟨by decide, by decide⟩, ⟨by decide, by decide⟩⟩ (Nat.le_of_ble_eq_true rfl) (fun v2 => ?_)
  refine a_istore_n (lc2 := [(3, .int v2), (0, .ref p0), (1, .int p1), (2, .int p2)]) dX11_isKin_9 rfl (by decide) rfl ?_
  refine a_aload_n dX11_isKin_10 rfl 1 rfl ?_
  refine a_getr kc12 9 dX11_isKin_11 (by decide) rfl w_fieldLink_RainCover_57 (fun v3 => ?_)
  refine a_iload_n dX11_isKin_14 rfl 3 rfl ?_
  refine a_iconst (v := 1) dX11_isKin_15 (by decide) ?_
  refine a_cV_Pi (r := v3) (ci := 8) (as := [.int p2, .int 1]) (st := []) dX11_isKin_16 (c_X7_at l g h v3 p2 1) rfl km_X7_at (hm_X7_at) rfl (by decide) rfl (fun _ ee => g_X7_at ee) w_methodLink_RainCover_266 w_instanceMethod_RainCover_Table_at__II_I w_selects_RainCover_Table_RainCover_Table_at__II_I_RainCover_Table_at__II_I ⟨⟨by decide, by decide⟩, ⟨by decide, by decide⟩⟩ (Nat.le_of_ble_eq_true rfl) (fun v4 => ?_)
  refine a_iload_n dX11_isKin_19 rfl 0 rfl ?_
  refine a_icmp_eq 25 dX11_isKin_20 (by decide) (fun c5 => ?_) (fun c5 => ?_)
  · refine a_aload_n dX11_isKin_25 rfl 1 rfl ?_
    refine a_aload_n dX11_isKin_26 rfl 1 rfl ?_
    refine a_getr kc12 2 dX11_isKin_27 (by decide) rfl w_fieldLink_RainCover_21 (fun v6 => ?_)
    refine a_aload_n dX11_isKin_30 rfl 1 rfl ?_
    refine a_getr kc12 11 dX11_isKin_31 (by decide) rfl w_fieldLink_RainCover_63 (fun v7 => ?_)
    refine a_iload_n dX11_isKin_34 rfl 2 rfl ?_
    refine a_iconst (v := 0) dX11_isKin_35 (by decide) ?_
    refine a_cV_Pi (r := v7) (ci := 8) (as := [.int p1, .int 0]) (st := [.ref v6, .ref p0]) dX11_isKin_36 (c_X7_at l g h v7 p1 0) rfl km_X7_at (hm_X7_at) rfl (by decide) rfl (fun _ ee => g_X7_at ee) w_methodLink_RainCover_266 w_instanceMethod_RainCover_Table_at__II_I w_selects_RainCover_Table_RainCover_Table_at__II_I_RainCover_Table_at__II_I ⟨⟨by decide, by decide⟩, ⟨by decide, by decide⟩⟩ (Nat.le_of_ble_eq_true rfl) (fun v8 => ?_)
    refine a_cV_Pr (r := v6) (ci := 0) (as := [.int v8]) (st := [.ref p0]) dX11_isKin_39 (c_Jx4a65c_get_915e3 l g h v6 v8) rfl km_Jx4a65c_get_915e3 (hm_Jx4a65c_get_915e3) rfl (by decide) rfl (fun _ ee => g_Jx4a65c_get_915e3 ee) w_methodLink_RainCover_124 w_instanceMethod_java_util_ArrayList_get__I_Ljava_lang_Object_ w_selects_java_util_ArrayList_java_util_ArrayList_get__I_Ljava_lang_Object__java_util_ArrayList_get__I_Ljava_lang_Object_ ⟨⟨by decide, by decide⟩, ⟨by decide, by decide⟩⟩ (Nat.le_of_ble_eq_true rfl) (fun v9 => ?_)
    refine a_cast kc3 dX11_isKin_42 w_classLink_RainCover_233 ?_
    refine a_iload_n dX11_isKin_45 rfl 0 rfl ?_
    refine a_cV_Pi (r := p0) (ci := 12) (as := [.ref v9, .int v2]) (st := []) dX11_isKin_46 (c_X11_gaugeOf l g h N p0 v9 v2) rfl km_X11_gaugeOf (hm_X11_gaugeOf) rfl (by decide) rfl (fun _ ee => g_X11_gaugeOf ee) w_methodLink_RainCover_272 w_instanceMethod_RainCover_gaugeOf__LRainCover_Farm_I_I w_selects_RainCover_RainCover_gaugeOf__LRainCover_Farm_I_I_RainCover_gaugeOf__LRainCover_Farm_I_I ⟨⟨by decide, by decide⟩, ⟨by decide, by decide⟩⟩ (Nat.le_of_ble_eq_true rfl) (fun v10 => ?_)
    refine a_istore (lc2 := [(4, .int v10), (3, .int v2), (0, .ref p0), (1, .int p1), (2, .int p2)]) dX11_isKin_49 (by decide) rfl ?_
    refine a_iload dX11_isKin_51 0 rfl ?_
    refine a_iconst (v := (-1)) dX11_isKin_53 (by decide) ?_
    refine a_icmp_eq 90 dX11_isKin_54 (by decide) (fun c11 => ?_) (fun c11 => ?_)
    · refine a_iconst (v := 0) dX11_isKin_90 (by decide) ?_
      exact a_zret dX11_isKin_91 rfl (Or.inl rfl) rfl (by decide) (by decide)
    · refine a_iload dX11_isKin_57 0 rfl ?_
      refine a_aload_n dX11_isKin_59 rfl 2 rfl ?_
      refine a_aload_n dX11_isKin_60 rfl 2 rfl ?_
      refine a_getr kc12 2 dX11_isKin_61 (by decide) rfl w_fieldLink_RainCover_21 (fun v12 => ?_)
      refine a_aload_n dX11_isKin_64 rfl 2 rfl ?_
      refine a_getr kc12 9 dX11_isKin_65 (by decide) rfl w_fieldLink_RainCover_57 (fun v13 => ?_)
      refine a_iload_n dX11_isKin_68 rfl 4 rfl ?_
      refine a_iconst (v := 0) dX11_isKin_69 (by decide) ?_
      refine a_cV_Pi (r := v13) (ci := 8) (as := [.int p2, .int 0]) (st := [.ref v12, .ref p0, .int v10]) dX11_isKin_70 (c_X7_at l g h v13 p2 0) rfl km_X7_at (hm_X7_at) rfl (by decide) rfl (fun _ ee => g_X7_at ee) w_methodLink_RainCover_266 w_instanceMethod_RainCover_Table_at__II_I w_selects_RainCover_Table_RainCover_Table_at__II_I_RainCover_Table_at__II_I ⟨⟨by decide, by decide⟩, ⟨by decide, by decide⟩⟩ (Nat.le_of_ble_eq_true rfl) (fun v14 => ?_)
      refine a_cV_Pr (r := v12) (ci := 0) (as := [.int v14]) (st := [.ref p0, .int v10]) dX11_isKin_73 (c_Jx4a65c_get_915e3 l g h v12 v14) rfl km_Jx4a65c_get_915e3 (hm_Jx4a65c_get_915e3) rfl (by decide) rfl (fun _ ee => g_Jx4a65c_get_915e3 ee) w_methodLink_RainCover_124 w_instanceMethod_java_util_ArrayList_get__I_Ljava_lang_Object_ w_selects_java_util_ArrayList_java_util_ArrayList_get__I_Ljava_lang_Object__java_util_ArrayList_get__I_Ljava_lang_Object_ ⟨⟨by decide, by decide⟩, ⟨by decide, by decide⟩⟩ (Nat.le_of_ble_eq_true rfl) (fun v15 => ?_)
      refine a_cast kc3 dX11_isKin_76 w_classLink_RainCover_233 ?_
      refine a_iload_n dX11_isKin_79 rfl 1 rfl ?_
      refine a_cV_Pi (r := p0) (ci := 12) (as := [.ref v15, .int v2]) (st := [.int v10]) dX11_isKin_80 (c_X11_gaugeOf l g h N p0 v15 v2) rfl km_X11_gaugeOf (hm_X11_gaugeOf) rfl (by decide) rfl (fun _ ee => g_X11_gaugeOf ee) w_methodLink_RainCover_272 w_instanceMethod_RainCover_gaugeOf__LRainCover_Farm_I_I w_selects_RainCover_RainCover_gaugeOf__LRainCover_Farm_I_I_RainCover_gaugeOf__LRainCover_Farm_I_I ⟨⟨by decide, by decide⟩, ⟨by decide, by decide⟩⟩ (Nat.le_of_ble_eq_true rfl) (fun v16 => ?_)
      refine a_icmp_ne 90 dX11_isKin_83 (by decide) (fun c17 => ?_) (fun c17 => ?_)
      · refine a_iconst (v := 1) dX11_isKin_86 (by decide) ?_
        refine a_goto 91 dX11_isKin_87 (by decide) ?_
        exact a_zret dX11_isKin_91 rfl (Or.inr rfl) rfl (by decide) (by decide)
      · refine a_iconst (v := 0) dX11_isKin_90 (by decide) ?_
        exact a_zret dX11_isKin_91 rfl (Or.inl rfl) rfl (by decide) (by decide)
  · refine a_iconst (v := 0) dX11_isKin_23 (by decide) ?_
    exact a_zret dX11_isKin_24 rfl (Or.inl rfl) rfl (by decide) (by decide)
theorem dX11_hurtOf_0 : decode cX11_hurtOf 0 = .ok (.aload_n 0, 1) := by decide +kernel
theorem dX11_hurtOf_1 : decode cX11_hurtOf 1 = .ok (.getfield 21, 3) := by decide +kernel
theorem dX11_hurtOf_4 : decode cX11_hurtOf 4 = .ok (.aload_n 0, 1) := by decide +kernel
theorem dX11_hurtOf_5 : decode cX11_hurtOf 5 = .ok (.getfield 57, 3) := by decide +kernel
theorem dX11_hurtOf_8 : decode cX11_hurtOf 8 = .ok (.iload_n 2, 1) := by decide +kernel
theorem dX11_hurtOf_9 : decode cX11_hurtOf 9 = .ok (.iconst 0, 1) := by decide +kernel
theorem dX11_hurtOf_10 : decode cX11_hurtOf 10 = .ok (.invokevirtual 266, 3) := by decide +kernel
theorem dX11_hurtOf_13 : decode cX11_hurtOf 13 = .ok (.invokevirtual 124, 3) := by decide +kernel
theorem dX11_hurtOf_16 : decode cX11_hurtOf 16 = .ok (.checkcast 233, 3) := by decide +kernel
theorem dX11_hurtOf_19 : decode cX11_hurtOf 19 = .ok (.astore_n 3, 1) := by decide +kernel
theorem dX11_hurtOf_20 : decode cX11_hurtOf 20 = .ok (.aload_n 0, 1) := by decide +kernel
theorem dX11_hurtOf_21 : decode cX11_hurtOf 21 = .ok (.aload_n 3, 1) := by decide +kernel
theorem dX11_hurtOf_22 : decode cX11_hurtOf 22 = .ok (.aload_n 0, 1) := by decide +kernel
theorem dX11_hurtOf_23 : decode cX11_hurtOf 23 = .ok (.getfield 57, 3) := by decide +kernel
theorem dX11_hurtOf_26 : decode cX11_hurtOf 26 = .ok (.iload_n 2, 1) := by decide +kernel
theorem dX11_hurtOf_27 : decode cX11_hurtOf 27 = .ok (.iconst 1, 1) := by decide +kernel
theorem dX11_hurtOf_28 : decode cX11_hurtOf 28 = .ok (.invokevirtual 266, 3) := by decide +kernel
theorem dX11_hurtOf_31 : decode cX11_hurtOf 31 = .ok (.aload_n 0, 1) := by decide +kernel
theorem dX11_hurtOf_32 : decode cX11_hurtOf 32 = .ok (.getfield 63, 3) := by decide +kernel
theorem dX11_hurtOf_35 : decode cX11_hurtOf 35 = .ok (.iload_n 1, 1) := by decide +kernel
theorem dX11_hurtOf_36 : decode cX11_hurtOf 36 = .ok (.iconst 2, 1) := by decide +kernel
theorem dX11_hurtOf_37 : decode cX11_hurtOf 37 = .ok (.invokevirtual 266, 3) := by decide +kernel
theorem dX11_hurtOf_40 : decode cX11_hurtOf 40 = .ok (.aload_n 0, 1) := by decide +kernel
theorem dX11_hurtOf_41 : decode cX11_hurtOf 41 = .ok (.invokevirtual 179, 3) := by decide +kernel
theorem dX11_hurtOf_44 : decode cX11_hurtOf 44 = .ok (.invokevirtual 282, 3) := by decide +kernel
theorem dX11_hurtOf_47 : decode cX11_hurtOf 47 = .ok (.istore 4, 2) := by decide +kernel
theorem dX11_hurtOf_49 : decode cX11_hurtOf 49 = .ok (.aload_n 0, 1) := by decide +kernel
theorem dX11_hurtOf_50 : decode cX11_hurtOf 50 = .ok (.getfield 57, 3) := by decide +kernel
theorem dX11_hurtOf_53 : decode cX11_hurtOf 53 = .ok (.iload_n 2, 1) := by decide +kernel
theorem dX11_hurtOf_54 : decode cX11_hurtOf 54 = .ok (.iconst 2, 1) := by decide +kernel
theorem dX11_hurtOf_55 : decode cX11_hurtOf 55 = .ok (.invokevirtual 266, 3) := by decide +kernel
theorem dX11_hurtOf_58 : decode cX11_hurtOf 58 = .ok (.aload_n 0, 1) := by decide +kernel
theorem dX11_hurtOf_59 : decode cX11_hurtOf 59 = .ok (.getfield 57, 3) := by decide +kernel
theorem dX11_hurtOf_62 : decode cX11_hurtOf 62 = .ok (.iload_n 2, 1) := by decide +kernel
theorem dX11_hurtOf_63 : decode cX11_hurtOf 63 = .ok (.iconst 3, 1) := by decide +kernel
theorem dX11_hurtOf_64 : decode cX11_hurtOf 64 = .ok (.invokevirtual 266, 3) := by decide +kernel
theorem dX11_hurtOf_67 : decode cX11_hurtOf 67 = .ok (.isub, 1) := by decide +kernel
theorem dX11_hurtOf_68 : decode cX11_hurtOf 68 = .ok (.iload 4, 2) := by decide +kernel
theorem dX11_hurtOf_70 : decode cX11_hurtOf 70 = .ok (.isub, 1) := by decide +kernel
theorem dX11_hurtOf_71 : decode cX11_hurtOf 71 = .ok (.ireturn, 1) := by decide +kernel
abbrev M_X11_hurtOf : MI := (RX11, cX11_hurtOf, 5, (some .int), ({ frames := 7, cells := 0, slots := 0, locals := 173 } : Room), 0, 0, false)
def f_X11_hurtOf (h0 : AH) (N : Nat) (p0 : Nat) (p1 : Int32) (p2 : Int32) : Option (Int32 × AH) := if kd h0 p0 = 12 + 1 then (xgr h0 p0 12 2).bind fun v1 => (xgr h0 p0 12 9).bind fun v2 => (f_X7_at h0 v2 p2 0).bind fun v3 => (f_Jx4a65c_get_915e3 h0 v1 v3).bind fun v4 => (xcc h0 v4 3).bind fun _ => (xgr h0 p0 12 9).bind fun v5 => (f_X7_at h0 v5 p2 1).bind fun v6 => (xgr h0 p0 12 11).bind fun v7 => (f_X7_at h0 v7 p1 2).bind fun v8 => (f_X11_now h0 p0).bind fun v9 => (f_X11_payOf h0 N p0 v4 v6 v8 v9).bind fun q10 => (xgr q10.2 p0 12 9).bind fun v11 => (f_X7_at q10.2 v11 p2 2).bind fun v12 => (xgr q10.2 p0 12 9).bind fun v13 => (f_X7_at q10.2 v13 p2 3).bind fun v14 => some (((v12 - v14) - q10.1), q10.2) else none
theorem g_X11_hurtOf {h0 : AH} {N : Nat} {p0 : Nat} {p1 : Int32} {p2 : Int32} {x : (Int32 × AH)} (e : f_X11_hurtOf h0 N p0 p1 p2 = some x) : kd h0 p0 = 12 + 1 := by
  unfold f_X11_hurtOf at e
  by_cases hk : kd h0 p0 = 12 + 1
  · exact hk
  · rw [if_neg hk] at e
    cases e
theorem km_X11_hurtOf : KM yX11_hurtOf M_X11_hurtOf 2 := ⟨in_tb 1038 (by decide +kernel) rfl, in_tb 1 (by decide +kernel) rfl, by decide +kernel, rfl, rfl⟩
theorem hm_X11_hurtOf : M_X11_hurtOf.2.2.2.2.2.1 = 0 ∧ M_X11_hurtOf.2.2.2.2.2.2.1 = 0 := ⟨rfl, rfl⟩
section
variable {l : Launch} {g : GG}
end
set_option maxRecDepth 100000 in
set_option maxHeartbeats 4000000 in
theorem c_X11_hurtOf (l : Launch) (g : GG) (h0 : AH) (N : Nat) (p0 : Nat) (p1 : Int32) (p2 : Int32) : CN l g yX11_hurtOf M_X11_hurtOf false [.ref p0, .int p1, .int p2] h0 rSi (f_X11_hurtOf h0 N p0 p1 p2) := by
  refine CN.of (by decide) rfl (fun hh => by first | rfl | cases hh) (Nat.le_of_ble_eq_true rfl) ?_
  unfold f_X11_hurtOf
  refine a_gd (fun hkd => ?_)
  refine a_aload_n dX11_hurtOf_0 rfl 0 rfl ?_
  refine a_getr kc12 2 dX11_hurtOf_1 (by decide) rfl w_fieldLink_RainCover_21 (fun v1 => ?_)
  refine a_aload_n dX11_hurtOf_4 rfl 0 rfl ?_
  refine a_getr kc12 9 dX11_hurtOf_5 (by decide) rfl w_fieldLink_RainCover_57 (fun v2 => ?_)
  refine a_iload_n dX11_hurtOf_8 rfl 2 rfl ?_
  refine a_iconst (v := 0) dX11_hurtOf_9 (by decide) ?_
  refine a_cV_Pi (r := v2) (ci := 8) (as := [.int p2, .int 0]) (st := [.ref v1]) dX11_hurtOf_10 (c_X7_at l g h0 v2 p2 0) rfl km_X7_at (hm_X7_at) rfl (by decide) rfl (fun _ ee => g_X7_at ee) w_methodLink_RainCover_266 w_instanceMethod_RainCover_Table_at__II_I w_selects_RainCover_Table_RainCover_Table_at__II_I_RainCover_Table_at__II_I ⟨⟨by decide, by decide⟩, ⟨by decide, by decide⟩⟩ (Nat.le_of_ble_eq_true rfl) (fun v3 => ?_)
  refine a_cV_Pr (r := v1) (ci := 0) (as := [.int v3]) (st := []) dX11_hurtOf_13 (c_Jx4a65c_get_915e3 l g h0 v1 v3) rfl km_Jx4a65c_get_915e3 (hm_Jx4a65c_get_915e3) rfl (by decide) rfl (fun _ ee => g_Jx4a65c_get_915e3 ee) w_methodLink_RainCover_124 w_instanceMethod_java_util_ArrayList_get__I_Ljava_lang_Object_ w_selects_java_util_ArrayList_java_util_ArrayList_get__I_Ljava_lang_Object__java_util_ArrayList_get__I_Ljava_lang_Object_ ⟨⟨by decide, by decide⟩, ⟨by decide, by decide⟩⟩ (Nat.le_of_ble_eq_true rfl) (fun v4 => ?_)
  refine a_cast kc3 dX11_hurtOf_16 w_classLink_RainCover_233 ?_
  refine a_astore_n (lc2 := [(3, .ref v4), (0, .ref p0), (1, .int p1), (2, .int p2)]) dX11_hurtOf_19 rfl (by decide) rfl ?_
  refine a_aload_n dX11_hurtOf_20 rfl 1 rfl ?_
  refine a_aload_n dX11_hurtOf_21 rfl 0 rfl ?_
  refine a_aload_n dX11_hurtOf_22 rfl 1 rfl ?_
  refine a_getr kc12 9 dX11_hurtOf_23 (by decide) rfl w_fieldLink_RainCover_57 (fun v5 => ?_)
  refine a_iload_n dX11_hurtOf_26 rfl 3 rfl ?_
  refine a_iconst (v := 1) dX11_hurtOf_27 (by decide) ?_
  refine a_cV_Pi (r := v5) (ci := 8) (as := [.int p2, .int 1]) (st := [.ref v4, .ref p0]) dX11_hurtOf_28 (c_X7_at l g h0 v5 p2 1) rfl km_X7_at (hm_X7_at) rfl (by decide) rfl (fun _ ee => g_X7_at ee) w_methodLink_RainCover_266 w_instanceMethod_RainCover_Table_at__II_I w_selects_RainCover_Table_RainCover_Table_at__II_I_RainCover_Table_at__II_I ⟨⟨by decide, by decide⟩, ⟨by decide, by decide⟩⟩ (Nat.le_of_ble_eq_true rfl) (fun v6 => ?_)
  refine a_aload_n dX11_hurtOf_31 rfl 1 rfl ?_
  refine a_getr kc12 11 dX11_hurtOf_32 (by decide) rfl w_fieldLink_RainCover_63 (fun v7 => ?_)
  refine a_iload_n dX11_hurtOf_35 rfl 2 rfl ?_
  refine a_iconst (v := 2) dX11_hurtOf_36 (by decide) ?_
  refine a_cV_Pi (r := v7) (ci := 8) (as := [.int p1, .int 2]) (st := [.int v6, .ref v4, .ref p0]) dX11_hurtOf_37 (c_X7_at l g h0 v7 p1 2) rfl km_X7_at (hm_X7_at) rfl (by decide) rfl (fun _ ee => g_X7_at ee) w_methodLink_RainCover_266 w_instanceMethod_RainCover_Table_at__II_I w_selects_RainCover_Table_RainCover_Table_at__II_I_RainCover_Table_at__II_I ⟨⟨by decide, by decide⟩, ⟨by decide, by decide⟩⟩ (Nat.le_of_ble_eq_true rfl) (fun v8 => ?_)
  refine a_aload_n dX11_hurtOf_40 rfl 1 rfl ?_
  refine a_cV_Pi (r := p0) (ci := 12) (as := []) (st := [.int v8, .int v6, .ref v4, .ref p0]) dX11_hurtOf_41 (c_X11_now l g h0 p0) rfl km_X11_now (hm_X11_now) rfl (by decide) rfl (fun _ ee => g_X11_now ee) w_methodLink_RainCover_179 w_instanceMethod_RainCover_now___I w_selects_RainCover_RainCover_now___I_RainCover_now___I ⟨⟨by decide, by decide⟩, ⟨by decide, by decide⟩⟩ (Nat.le_of_ble_eq_true rfl) (fun v9 => ?_)
  refine a_cV_Si (r := p0) (ci := 12) (as := [.ref v4, .int v6, .int v8, .int v9]) (st := []) dX11_hurtOf_44 (c_X11_payOf l g h0 N p0 v4 v6 v8 v9) rfl km_X11_payOf (hm_X11_payOf) rfl (by decide) rfl (fun _ ee => g_X11_payOf ee) w_methodLink_RainCover_282 w_instanceMethod_RainCover_payOf__LRainCover_Farm_III_I w_selects_RainCover_RainCover_payOf__LRainCover_Farm_III_I_RainCover_payOf__LRainCover_Farm_III_I ⟨⟨by decide, by decide⟩, ⟨by decide, by decide⟩⟩ (Nat.le_of_ble_eq_true rfl) (fun q10 => ?_)
  refine a_istore (lc2 := [(4, .int q10.1), (3, .ref v4), (0, .ref p0), (1, .int p1), (2, .int p2)]) dX11_hurtOf_47 (by decide) rfl ?_
  refine a_aload_n dX11_hurtOf_49 rfl 2 rfl ?_
  refine a_getr kc12 9 dX11_hurtOf_50 (by decide) rfl w_fieldLink_RainCover_57 (fun v11 => ?_)
  refine a_iload_n dX11_hurtOf_53 rfl 4 rfl ?_
  refine a_iconst (v := 2) dX11_hurtOf_54 (by decide) ?_
  refine a_cV_Pi (r := v11) (ci := 8) (as := [.int p2, .int 2]) (st := []) dX11_hurtOf_55 (c_X7_at l g q10.2 v11 p2 2) rfl km_X7_at (hm_X7_at) rfl (by decide) rfl (fun _ ee => g_X7_at ee) w_methodLink_RainCover_266 w_instanceMethod_RainCover_Table_at__II_I w_selects_RainCover_Table_RainCover_Table_at__II_I_RainCover_Table_at__II_I ⟨⟨by decide, by decide⟩, ⟨by decide, by decide⟩⟩ (Nat.le_of_ble_eq_true rfl) (fun v12 => ?_)
  refine a_aload_n dX11_hurtOf_58 rfl 2 rfl ?_
  refine a_getr kc12 9 dX11_hurtOf_59 (by decide) rfl w_fieldLink_RainCover_57 (fun v13 => ?_)
  refine a_iload_n dX11_hurtOf_62 rfl 4 rfl ?_
  refine a_iconst (v := 3) dX11_hurtOf_63 (by decide) ?_
  refine a_cV_Pi (r := v13) (ci := 8) (as := [.int p2, .int 3]) (st := [.int v12]) dX11_hurtOf_64 (c_X7_at l g q10.2 v13 p2 3) rfl km_X7_at (hm_X7_at) rfl (by decide) rfl (fun _ ee => g_X7_at ee) w_methodLink_RainCover_266 w_instanceMethod_RainCover_Table_at__II_I w_selects_RainCover_Table_RainCover_Table_at__II_I_RainCover_Table_at__II_I ⟨⟨by decide, by decide⟩, ⟨by decide, by decide⟩⟩ (Nat.le_of_ble_eq_true rfl) (fun v14 => ?_)
  refine a_isub dX11_hurtOf_67 ?_
  refine a_iload dX11_hurtOf_68 0 rfl ?_
  refine a_isub dX11_hurtOf_70 ?_
  exact a_iret dX11_hurtOf_71 rfl rfl (by decide) (by decide)
theorem dX11_award_0 : decode cX11_award 0 = .ok (.aload_n 0, 1) := by decide +kernel
theorem dX11_award_1 : decode cX11_award 1 = .ok (.getfield 63, 3) := by decide +kernel
theorem dX11_award_4 : decode cX11_award 4 = .ok (.iload_n 1, 1) := by decide +kernel
theorem dX11_award_5 : decode cX11_award 5 = .ok (.iconst 0, 1) := by decide +kernel
theorem dX11_award_6 : decode cX11_award 6 = .ok (.invokevirtual 266, 3) := by decide +kernel
theorem dX11_award_9 : decode cX11_award 9 = .ok (.istore_n 3, 1) := by decide +kernel
theorem dX11_award_10 : decode cX11_award 10 = .ok (.aload_n 0, 1) := by decide +kernel
theorem dX11_award_11 : decode cX11_award 11 = .ok (.getfield 21, 3) := by decide +kernel
theorem dX11_award_14 : decode cX11_award 14 = .ok (.iload_n 3, 1) := by decide +kernel
theorem dX11_award_15 : decode cX11_award 15 = .ok (.invokevirtual 124, 3) := by decide +kernel
theorem dX11_award_18 : decode cX11_award 18 = .ok (.checkcast 233, 3) := by decide +kernel
theorem dX11_award_21 : decode cX11_award 21 = .ok (.getfield 321, 3) := by decide +kernel
theorem dX11_award_24 : decode cX11_award 24 = .ok (.iload_n 2, 1) := by decide +kernel
theorem dX11_award_25 : decode cX11_award 25 = .ok (.imul, 1) := by decide +kernel
theorem dX11_award_26 : decode cX11_award 26 = .ok (.istore 4, 2) := by decide +kernel
theorem dX11_award_28 : decode cX11_award 28 = .ok (.aload_n 0, 1) := by decide +kernel
theorem dX11_award_29 : decode cX11_award 29 = .ok (.getfield 60, 3) := by decide +kernel
theorem dX11_award_32 : decode cX11_award 32 = .ok (.iload_n 3, 1) := by decide +kernel
theorem dX11_award_33 : decode cX11_award 33 = .ok (.aload_n 0, 1) := by decide +kernel
theorem dX11_award_34 : decode cX11_award 34 = .ok (.getfield 63, 3) := by decide +kernel
theorem dX11_award_37 : decode cX11_award 37 = .ok (.iload_n 1, 1) := by decide +kernel
theorem dX11_award_38 : decode cX11_award 38 = .ok (.iconst 1, 1) := by decide +kernel
theorem dX11_award_39 : decode cX11_award 39 = .ok (.invokevirtual 266, 3) := by decide +kernel
theorem dX11_award_42 : decode cX11_award 42 = .ok (.iload 4, 2) := by decide +kernel
theorem dX11_award_44 : decode cX11_award 44 = .ok (.iconst 0, 1) := by decide +kernel
theorem dX11_award_45 : decode cX11_award 45 = .ok (.invokevirtual 264, 3) := by decide +kernel
theorem dX11_award_48 : decode cX11_award 48 = .ok (.istore 5, 2) := by decide +kernel
theorem dX11_award_50 : decode cX11_award 50 = .ok (.aload_n 0, 1) := by decide +kernel
theorem dX11_award_51 : decode cX11_award 51 = .ok (.getfield 63, 3) := by decide +kernel
theorem dX11_award_54 : decode cX11_award 54 = .ok (.iload_n 1, 1) := by decide +kernel
theorem dX11_award_55 : decode cX11_award 55 = .ok (.iconst 3, 1) := by decide +kernel
theorem dX11_award_56 : decode cX11_award 56 = .ok (.iconst 1, 1) := by decide +kernel
theorem dX11_award_57 : decode cX11_award 57 = .ok (.invokevirtual 269, 3) := by decide +kernel
theorem dX11_award_60 : decode cX11_award 60 = .ok (.aload_n 0, 1) := by decide +kernel
theorem dX11_award_61 : decode cX11_award 61 = .ok (.getfield 63, 3) := by decide +kernel
theorem dX11_award_64 : decode cX11_award 64 = .ok (.iload_n 1, 1) := by decide +kernel
theorem dX11_award_65 : decode cX11_award 65 = .ok (.iconst 4, 1) := by decide +kernel
theorem dX11_award_66 : decode cX11_award 66 = .ok (.iload 5, 2) := by decide +kernel
theorem dX11_award_68 : decode cX11_award 68 = .ok (.invokevirtual 269, 3) := by decide +kernel
theorem dX11_award_71 : decode cX11_award 71 = .ok (.return_, 1) := by decide +kernel
abbrev M_X11_award : MI := (RX11, cX11_award, 6, none, ({ frames := 3, cells := 0, slots := 0, locals := 64 } : Room), 0, 0, false)
def f_X11_award (h0 : AH) (p0 : Nat) (p1 : Int32) (p2 : Int32) : Option AH := if kd h0 p0 = 12 + 1 then (xgr h0 p0 12 11).bind fun v1 => (f_X7_at h0 v1 p1 0).bind fun v2 => (xgr h0 p0 12 2).bind fun v3 => (f_Jx4a65c_get_915e3 h0 v3 v2).bind fun v4 => (xcc h0 v4 3).bind fun _ => (xgi h0 v4 3 3).bind fun v5 => (xgr h0 p0 12 10).bind fun v6 => (xgr h0 p0 12 11).bind fun v7 => (f_X7_at h0 v7 p1 1).bind fun v8 => (f_X7_add h0 v6 v2 v8 (v5 * p2) 0).bind fun q9 => (xgr q9.2 p0 12 11).bind fun v10 => (f_X7_put q9.2 v10 p1 3 1).bind fun q11 => (xgr q11 p0 12 11).bind fun v12 => (f_X7_put q11 v12 p1 4 q9.1).bind fun q13 => some q13 else none
theorem g_X11_award {h0 : AH} {p0 : Nat} {p1 : Int32} {p2 : Int32} {x : AH} (e : f_X11_award h0 p0 p1 p2 = some x) : kd h0 p0 = 12 + 1 := by
  unfold f_X11_award at e
  by_cases hk : kd h0 p0 = 12 + 1
  · exact hk
  · rw [if_neg hk] at e
    cases e
theorem km_X11_award : KM yX11_award M_X11_award 2 := ⟨in_tb 1042 (by decide +kernel) rfl, in_tb 1 (by decide +kernel) rfl, by decide +kernel, rfl, rfl⟩
theorem hm_X11_award : M_X11_award.2.2.2.2.2.1 = 0 ∧ M_X11_award.2.2.2.2.2.2.1 = 0 := ⟨rfl, rfl⟩
section
variable {l : Launch} {g : GG}
end
set_option maxRecDepth 100000 in
set_option maxHeartbeats 4000000 in
theorem c_X11_award (l : Launch) (g : GG) (h0 : AH) (p0 : Nat) (p1 : Int32) (p2 : Int32) : CN l g yX11_award M_X11_award false [.ref p0, .int p1, .int p2] h0 rSv (f_X11_award h0 p0 p1 p2) := by
  refine CN.of (by decide) rfl (fun hh => by first | rfl | cases hh) (Nat.le_of_ble_eq_true rfl) ?_
  unfold f_X11_award
  refine a_gd (fun hkd => ?_)
  refine a_aload_n dX11_award_0 rfl 0 rfl ?_
  refine a_getr kc12 11 dX11_award_1 (by decide) rfl w_fieldLink_RainCover_63 (fun v1 => ?_)
  refine a_iload_n dX11_award_4 rfl 1 rfl ?_
  refine a_iconst (v := 0) dX11_award_5 (by decide) ?_
  refine a_cV_Pi (r := v1) (ci := 8) (as := [.int p1, .int 0]) (st := []) dX11_award_6 (c_X7_at l g h0 v1 p1 0) rfl km_X7_at (hm_X7_at) rfl (by decide) rfl (fun _ ee => g_X7_at ee) w_methodLink_RainCover_266 w_instanceMethod_RainCover_Table_at__II_I w_selects_RainCover_Table_RainCover_Table_at__II_I_RainCover_Table_at__II_I ⟨⟨by decide, by decide⟩, ⟨by decide, by decide⟩⟩ (Nat.le_of_ble_eq_true rfl) (fun v2 => ?_)
  refine a_istore_n (lc2 := [(3, .int v2), (0, .ref p0), (1, .int p1), (2, .int p2)]) dX11_award_9 rfl (by decide) rfl ?_
  refine a_aload_n dX11_award_10 rfl 1 rfl ?_
  refine a_getr kc12 2 dX11_award_11 (by decide) rfl w_fieldLink_RainCover_21 (fun v3 => ?_)
  refine a_iload_n dX11_award_14 rfl 0 rfl ?_
  refine a_cV_Pr (r := v3) (ci := 0) (as := [.int v2]) (st := []) dX11_award_15 (c_Jx4a65c_get_915e3 l g h0 v3 v2) rfl km_Jx4a65c_get_915e3 (hm_Jx4a65c_get_915e3) rfl (by decide) rfl (fun _ ee => g_Jx4a65c_get_915e3 ee) w_methodLink_RainCover_124 w_instanceMethod_java_util_ArrayList_get__I_Ljava_lang_Object_ w_selects_java_util_ArrayList_java_util_ArrayList_get__I_Ljava_lang_Object__java_util_ArrayList_get__I_Ljava_lang_Object_ ⟨⟨by decide, by decide⟩, ⟨by decide, by decide⟩⟩ (Nat.le_of_ble_eq_true rfl) (fun v4 => ?_)
  refine a_cast kc3 dX11_award_18 w_classLink_RainCover_233 ?_
  refine a_geti kc3 3 dX11_award_21 (by decide) rfl w_fieldLink_RainCover_321 (fun v5 => ?_)
  refine a_iload_n dX11_award_24 rfl 3 rfl ?_
  refine a_imul dX11_award_25 ?_
  refine a_istore (lc2 := [(4, .int (v5 * p2)), (3, .int v2), (0, .ref p0), (1, .int p1), (2, .int p2)]) dX11_award_26 (by decide) rfl ?_
  refine a_aload_n dX11_award_28 rfl 2 rfl ?_
  refine a_getr kc12 10 dX11_award_29 (by decide) rfl w_fieldLink_RainCover_60 (fun v6 => ?_)
  refine a_iload_n dX11_award_32 rfl 1 rfl ?_
  refine a_aload_n dX11_award_33 rfl 2 rfl ?_
  refine a_getr kc12 11 dX11_award_34 (by decide) rfl w_fieldLink_RainCover_63 (fun v7 => ?_)
  refine a_iload_n dX11_award_37 rfl 3 rfl ?_
  refine a_iconst (v := 1) dX11_award_38 (by decide) ?_
  refine a_cV_Pi (r := v7) (ci := 8) (as := [.int p1, .int 1]) (st := [.int v2, .ref v6]) dX11_award_39 (c_X7_at l g h0 v7 p1 1) rfl km_X7_at (hm_X7_at) rfl (by decide) rfl (fun _ ee => g_X7_at ee) w_methodLink_RainCover_266 w_instanceMethod_RainCover_Table_at__II_I w_selects_RainCover_Table_RainCover_Table_at__II_I_RainCover_Table_at__II_I ⟨⟨by decide, by decide⟩, ⟨by decide, by decide⟩⟩ (Nat.le_of_ble_eq_true rfl) (fun v8 => ?_)
  refine a_iload dX11_award_42 0 rfl ?_
  refine a_iconst (v := 0) dX11_award_44 (by decide) ?_
  refine a_cV_Si (r := v6) (ci := 8) (as := [.int v2, .int v8, .int (v5 * p2), .int 0]) (st := []) dX11_award_45 (c_X7_add l g h0 v6 v2 v8 (v5 * p2) 0) rfl km_X7_add (hm_X7_add) rfl (by decide) rfl (fun _ ee => g_X7_add ee) w_methodLink_RainCover_264 w_instanceMethod_RainCover_Table_add__IIII_I w_selects_RainCover_Table_RainCover_Table_add__IIII_I_RainCover_Table_add__IIII_I ⟨⟨by decide, by decide⟩, ⟨by decide, by decide⟩⟩ (Nat.le_of_ble_eq_true rfl) (fun q9 => ?_)
  refine a_istore (lc2 := [(5, .int q9.1), (4, .int (v5 * p2)), (3, .int v2), (0, .ref p0), (1, .int p1), (2, .int p2)]) dX11_award_48 (by decide) rfl ?_
  refine a_aload_n dX11_award_50 rfl 3 rfl ?_
  refine a_getr kc12 11 dX11_award_51 (by decide) rfl w_fieldLink_RainCover_63 (fun v10 => ?_)
  refine a_iload_n dX11_award_54 rfl 4 rfl ?_
  refine a_iconst (v := 3) dX11_award_55 (by decide) ?_
  refine a_iconst (v := 1) dX11_award_56 (by decide) ?_
  refine a_cV_Sv (r := v10) (ci := 8) (as := [.int p1, .int 3, .int 1]) (st := []) dX11_award_57 (c_X7_put l g q9.2 v10 p1 3 1) rfl km_X7_put (hm_X7_put) rfl (by decide) rfl (fun _ ee => g_X7_put ee) w_methodLink_RainCover_269 w_instanceMethod_RainCover_Table_put__III_V w_selects_RainCover_Table_RainCover_Table_put__III_V_RainCover_Table_put__III_V ⟨⟨by decide, by decide⟩, ⟨by decide, by decide⟩⟩ (Nat.le_of_ble_eq_true rfl) (fun q11 => ?_)
  refine a_aload_n dX11_award_60 rfl 3 rfl ?_
  refine a_getr kc12 11 dX11_award_61 (by decide) rfl w_fieldLink_RainCover_63 (fun v12 => ?_)
  refine a_iload_n dX11_award_64 rfl 4 rfl ?_
  refine a_iconst (v := 4) dX11_award_65 (by decide) ?_
  refine a_iload dX11_award_66 0 rfl ?_
  refine a_cV_Sv (r := v12) (ci := 8) (as := [.int p1, .int 4, .int q9.1]) (st := []) dX11_award_68 (c_X7_put l g q11 v12 p1 4 q9.1) rfl km_X7_put (hm_X7_put) rfl (by decide) rfl (fun _ ee => g_X7_put ee) w_methodLink_RainCover_269 w_instanceMethod_RainCover_Table_put__III_V w_selects_RainCover_Table_RainCover_Table_put__III_V_RainCover_Table_put__III_V ⟨⟨by decide, by decide⟩, ⟨by decide, by decide⟩⟩ (Nat.le_of_ble_eq_true rfl) (fun q13 => ?_)
  exact a_vret dX11_award_71 rfl rfl (by decide) (by decide)
theorem dX11_judge_0 : decode cX11_judge 0 = .ok (.aload_n 0, 1) := by decide +kernel
theorem dX11_judge_1 : decode cX11_judge 1 = .ok (.getfield 63, 3) := by decide +kernel
theorem dX11_judge_4 : decode cX11_judge 4 = .ok (.iload_n 1, 1) := by decide +kernel
theorem dX11_judge_5 : decode cX11_judge 5 = .ok (.invokevirtual 420, 3) := by decide +kernel
theorem dX11_judge_8 : decode cX11_judge 8 = .ok (.ifCond .ne 5, 3) := by decide +kernel
theorem dX11_judge_11 : decode cX11_judge 11 = .ok (.iconst (-1), 1) := by decide +kernel
theorem dX11_judge_12 : decode cX11_judge 12 = .ok (.ireturn, 1) := by decide +kernel
theorem dX11_judge_13 : decode cX11_judge 13 = .ok (.aload_n 0, 1) := by decide +kernel
theorem dX11_judge_14 : decode cX11_judge 14 = .ok (.getfield 63, 3) := by decide +kernel
theorem dX11_judge_17 : decode cX11_judge 17 = .ok (.iload_n 1, 1) := by decide +kernel
theorem dX11_judge_18 : decode cX11_judge 18 = .ok (.iconst 3, 1) := by decide +kernel
theorem dX11_judge_19 : decode cX11_judge 19 = .ok (.invokevirtual 266, 3) := by decide +kernel
theorem dX11_judge_22 : decode cX11_judge 22 = .ok (.ifCond .eq 6, 3) := by decide +kernel
theorem dX11_judge_25 : decode cX11_judge 25 = .ok (.bipush (-3), 2) := by decide +kernel
theorem dX11_judge_27 : decode cX11_judge 27 = .ok (.ireturn, 1) := by decide +kernel
theorem dX11_judge_28 : decode cX11_judge 28 = .ok (.iconst 0, 1) := by decide +kernel
theorem dX11_judge_29 : decode cX11_judge 29 = .ok (.istore_n 2, 1) := by decide +kernel
theorem dX11_judge_30 : decode cX11_judge 30 = .ok (.iconst 0, 1) := by decide +kernel
theorem dX11_judge_31 : decode cX11_judge 31 = .ok (.istore_n 3, 1) := by decide +kernel
theorem dX11_judge_32 : decode cX11_judge 32 = .ok (.iconst 0, 1) := by decide +kernel
theorem dX11_judge_33 : decode cX11_judge 33 = .ok (.istore 4, 2) := by decide +kernel
theorem dX11_judge_35 : decode cX11_judge 35 = .ok (.iload 4, 2) := by decide +kernel
theorem dX11_judge_37 : decode cX11_judge 37 = .ok (.aload_n 0, 1) := by decide +kernel
theorem dX11_judge_38 : decode cX11_judge 38 = .ok (.getfield 57, 3) := by decide +kernel
theorem dX11_judge_41 : decode cX11_judge 41 = .ok (.getfield 306, 3) := by decide +kernel
theorem dX11_judge_44 : decode cX11_judge 44 = .ok (.if_icmp .ge 62, 3) := by decide +kernel
theorem dX11_judge_47 : decode cX11_judge 47 = .ok (.aload_n 0, 1) := by decide +kernel
theorem dX11_judge_48 : decode cX11_judge 48 = .ok (.iload_n 1, 1) := by decide +kernel
theorem dX11_judge_49 : decode cX11_judge 49 = .ok (.iload 4, 2) := by decide +kernel
theorem dX11_judge_51 : decode cX11_judge 51 = .ok (.invokevirtual 427, 3) := by decide +kernel
theorem dX11_judge_54 : decode cX11_judge 54 = .ok (.ifCond .ne 6, 3) := by decide +kernel
theorem dX11_judge_57 : decode cX11_judge 57 = .ok (.goto 43, 3) := by decide +kernel
theorem dX11_judge_60 : decode cX11_judge 60 = .ok (.aload_n 0, 1) := by decide +kernel
theorem dX11_judge_61 : decode cX11_judge 61 = .ok (.iload_n 1, 1) := by decide +kernel
theorem dX11_judge_62 : decode cX11_judge 62 = .ok (.iload 4, 2) := by decide +kernel
theorem dX11_judge_64 : decode cX11_judge 64 = .ok (.invokevirtual 430, 3) := by decide +kernel
theorem dX11_judge_67 : decode cX11_judge 67 = .ok (.istore 5, 2) := by decide +kernel
theorem dX11_judge_69 : decode cX11_judge 69 = .ok (.iload_n 2, 1) := by decide +kernel
theorem dX11_judge_70 : decode cX11_judge 70 = .ok (.iload 5, 2) := by decide +kernel
theorem dX11_judge_72 : decode cX11_judge 72 = .ok (.ifCond .le 7, 3) := by decide +kernel
theorem dX11_judge_75 : decode cX11_judge 75 = .ok (.iconst 1, 1) := by decide +kernel
theorem dX11_judge_76 : decode cX11_judge 76 = .ok (.goto 4, 3) := by decide +kernel
theorem dX11_judge_79 : decode cX11_judge 79 = .ok (.iconst (-1), 1) := by decide +kernel
theorem dX11_judge_80 : decode cX11_judge 80 = .ok (.iadd, 1) := by decide +kernel
theorem dX11_judge_81 : decode cX11_judge 81 = .ok (.istore_n 2, 1) := by decide +kernel
theorem dX11_judge_82 : decode cX11_judge 82 = .ok (.iload 5, 2) := by decide +kernel
theorem dX11_judge_84 : decode cX11_judge 84 = .ok (.ifCond .le 16, 3) := by decide +kernel
theorem dX11_judge_87 : decode cX11_judge 87 = .ok (.iload_n 3, 1) := by decide +kernel
theorem dX11_judge_88 : decode cX11_judge 88 = .ok (.ifCond .eq 9, 3) := by decide +kernel
theorem dX11_judge_91 : decode cX11_judge 91 = .ok (.iload 5, 2) := by decide +kernel
theorem dX11_judge_93 : decode cX11_judge 93 = .ok (.iload_n 3, 1) := by decide +kernel
theorem dX11_judge_94 : decode cX11_judge 94 = .ok (.if_icmp .ge 6, 3) := by decide +kernel
theorem dX11_judge_97 : decode cX11_judge 97 = .ok (.iload 5, 2) := by decide +kernel
theorem dX11_judge_99 : decode cX11_judge 99 = .ok (.istore_n 3, 1) := by decide +kernel
theorem dX11_judge_100 : decode cX11_judge 100 = .ok (.iinc 4 1, 3) := by decide +kernel
theorem dX11_judge_103 : decode cX11_judge 103 = .ok (.goto (-68), 3) := by decide +kernel
theorem dX11_judge_106 : decode cX11_judge 106 = .ok (.iload_n 2, 1) := by decide +kernel
theorem dX11_judge_107 : decode cX11_judge 107 = .ok (.ifCond .gt 15, 3) := by decide +kernel
theorem dX11_judge_110 : decode cX11_judge 110 = .ok (.aload_n 0, 1) := by decide +kernel
theorem dX11_judge_111 : decode cX11_judge 111 = .ok (.getfield 63, 3) := by decide +kernel
theorem dX11_judge_114 : decode cX11_judge 114 = .ok (.iload_n 1, 1) := by decide +kernel
theorem dX11_judge_115 : decode cX11_judge 115 = .ok (.iconst 3, 1) := by decide +kernel
theorem dX11_judge_116 : decode cX11_judge 116 = .ok (.iconst 2, 1) := by decide +kernel
theorem dX11_judge_117 : decode cX11_judge 117 = .ok (.invokevirtual 269, 3) := by decide +kernel
theorem dX11_judge_120 : decode cX11_judge 120 = .ok (.iconst 0, 1) := by decide +kernel
theorem dX11_judge_121 : decode cX11_judge 121 = .ok (.ireturn, 1) := by decide +kernel
theorem dX11_judge_122 : decode cX11_judge 122 = .ok (.aload_n 0, 1) := by decide +kernel
theorem dX11_judge_123 : decode cX11_judge 123 = .ok (.getfield 60, 3) := by decide +kernel
theorem dX11_judge_126 : decode cX11_judge 126 = .ok (.invokevirtual 261, 3) := by decide +kernel
theorem dX11_judge_129 : decode cX11_judge 129 = .ok (.ifCond .eq 6, 3) := by decide +kernel
theorem dX11_judge_132 : decode cX11_judge 132 = .ok (.bipush (-4), 2) := by decide +kernel
theorem dX11_judge_134 : decode cX11_judge 134 = .ok (.ireturn, 1) := by decide +kernel
theorem dX11_judge_135 : decode cX11_judge 135 = .ok (.aload_n 0, 1) := by decide +kernel
theorem dX11_judge_136 : decode cX11_judge 136 = .ok (.iload_n 1, 1) := by decide +kernel
theorem dX11_judge_137 : decode cX11_judge 137 = .ok (.iload_n 3, 1) := by decide +kernel
theorem dX11_judge_138 : decode cX11_judge 138 = .ok (.invokevirtual 433, 3) := by decide +kernel
theorem dX11_judge_141 : decode cX11_judge 141 = .ok (.iconst 1, 1) := by decide +kernel
theorem dX11_judge_142 : decode cX11_judge 142 = .ok (.ireturn, 1) := by decide +kernel
abbrev M_X11_judge : MI := (RX11, cX11_judge, 6, (some .int), ({ frames := 8, cells := 0, slots := 0, locals := 197 } : Room), 0, 0, false)
def f_X11_judge_b100 (N : Nat) (K35 : AH → Nat → Int32 → Int32 → Int32 → Int32 → Option (Int32 × AH)) (h : AH) (x0 : Nat) (x1 : Int32) (x2 : Int32) (x3 : Int32) (x4 : Int32) : Option (Int32 × AH) := K35 h x0 x1 x2 x3 (x4 + 1)
def f_X11_judge_b97 (N : Nat) (K35 : AH → Nat → Int32 → Int32 → Int32 → Int32 → Option (Int32 × AH)) (h : AH) (x0 : Nat) (x1 : Int32) (x2 : Int32) (x4 : Int32) (x5 : Int32) : Option (Int32 × AH) := f_X11_judge_b100 N K35 h x0 x1 x2 x5 x4
def f_X11_judge_b80 (N : Nat) (K35 : AH → Nat → Int32 → Int32 → Int32 → Int32 → Option (Int32 × AH)) (h : AH) (x0 : Nat) (x1 : Int32) (x3 : Int32) (x4 : Int32) (x5 : Int32) (s5 : Int32) (s6 : Int32) : Option (Int32 × AH) := (if x5 ≤ 0 then f_X11_judge_b100 N K35 h x0 x1 (s6 + s5) x3 x4 else (if x3 = 0 then f_X11_judge_b97 N K35 h x0 x1 (s6 + s5) x4 x5 else (if x3 ≤ x5 then f_X11_judge_b100 N K35 h x0 x1 (s6 + s5) x3 x4 else f_X11_judge_b97 N K35 h x0 x1 (s6 + s5) x4 x5)))
def f_X11_judge_b35_body (N : Nat) (K35 : AH → Nat → Int32 → Int32 → Int32 → Int32 → Option (Int32 × AH)) (h : AH) (x0 : Nat) (x1 : Int32) (x2 : Int32) (x3 : Int32) (x4 : Int32) : Option (Int32 × AH) := (xgr h x0 12 9).bind fun v7 => (xgi h v7 8 3).bind fun v8 => (if v8 ≤ x4 then (if 0 < x2 then (xgr h x0 12 10).bind fun v11 => (f_X7_isFull h v11).bind fun v12 => (if v12 = 0 then (f_X11_award h x0 x1 x3).bind fun q14 => some (1, q14) else some ((-4), h)) else (xgr h x0 12 11).bind fun v15 => (f_X7_put h v15 x1 3 2).bind fun q16 => some (0, q16)) else (f_X11_isKin h N x0 x1 x4).bind fun v17 => (if v17 = 0 then f_X11_judge_b100 N K35 h x0 x1 x2 x3 x4 else (f_X11_hurtOf h N x0 x1 x4).bind fun q19 => (if q19.1 ≤ 0 then f_X11_judge_b80 N K35 q19.2 x0 x1 x3 x4 q19.1 (-1) x2 else f_X11_judge_b80 N K35 q19.2 x0 x1 x3 x4 q19.1 1 x2)))
def f_X11_judge_b35 (N : Nat) : Nat → AH → Nat → Int32 → Int32 → Int32 → Int32 → Option (Int32 × AH)
  | 0, _, _, _, _, _, _ => none
  | n + 1, h, x0, x1, x2, x3, x4 => f_X11_judge_b35_body N  (f_X11_judge_b35 N  n) h x0 x1 x2 x3 x4
def f_X11_judge (h0 : AH) (N : Nat) (p0 : Nat) (p1 : Int32) : Option (Int32 × AH) := if kd h0 p0 = 12 + 1 then (xgr h0 p0 12 11).bind fun v1 => (f_X7_has h0 v1 p1).bind fun v2 => (if v2 = 0 then some ((-1), h0) else (xgr h0 p0 12 11).bind fun v4 => (f_X7_at h0 v4 p1 3).bind fun v5 => (if v5 = 0 then f_X11_judge_b35 N N h0 p0 p1 0 0 0 else some ((-3), h0))) else none
theorem g_X11_judge {h0 : AH} {N : Nat} {p0 : Nat} {p1 : Int32} {x : (Int32 × AH)} (e : f_X11_judge h0 N p0 p1 = some x) : kd h0 p0 = 12 + 1 := by
  unfold f_X11_judge at e
  by_cases hk : kd h0 p0 = 12 + 1
  · exact hk
  · rw [if_neg hk] at e
    cases e
theorem km_X11_judge : KM yX11_judge M_X11_judge 1 := ⟨in_tb 1030 (by decide +kernel) rfl, in_tb 1 (by decide +kernel) rfl, by decide +kernel, rfl, rfl⟩
theorem hm_X11_judge : M_X11_judge.2.2.2.2.2.1 = 0 ∧ M_X11_judge.2.2.2.2.2.2.1 = 0 := ⟨rfl, rfl⟩
section
variable {l : Launch} {g : GG}
set_option maxRecDepth 100000 in
set_option maxHeartbeats 4000000 in
theorem t_X11_judge_b100 (h0 : AH) (N : Nat) (K35 : AH → Nat → Int32 → Int32 → Int32 → Int32 → Option (Int32 × AH)) (hK35 : ∀ (z : AH) (z0 : Nat) (z1 : Int32) (z2 : Int32) (z3 : Int32) (z4 : Int32), AO l g M_X11_judge false h0 35 [(0, .ref z0), (1, .int z1), (2, .int z2), (3, .int z3), (4, .int z4)] [] z 0 0 rSi (K35 z z0 z1 z2 z3 z4)) (h : AH) (x0 : Nat) (x1 : Int32) (x2 : Int32) (x3 : Int32) (x4 : Int32) : AO l g M_X11_judge false h0 100 [(0, .ref x0), (1, .int x1), (2, .int x2), (3, .int x3), (4, .int x4)] [] h 0 0 rSi (f_X11_judge_b100 N K35 h x0 x1 x2 x3 x4) := by
  unfold f_X11_judge_b100
  refine a_iinc (q := 4) (v := (x4 + 1)) (lc2 := [(4, .int (x4 + 1)), (0, .ref x0), (1, .int x1), (2, .int x2), (3, .int x3)]) dX11_judge_100 rfl rfl (by decide) rfl ?_
  refine a_goto 35 dX11_judge_103 (by decide) ?_
  refine a_pick (lc2 := [(0, .ref x0), (1, .int x1), (2, .int x2), (3, .int x3), (4, .int (x4 + 1))]) [1, 2, 3, 4, 0] rfl ?_
  exact hK35 h x0 x1 x2 x3 (x4 + 1)
set_option maxRecDepth 100000 in
set_option maxHeartbeats 4000000 in
theorem t_X11_judge_b97 (h0 : AH) (N : Nat) (K35 : AH → Nat → Int32 → Int32 → Int32 → Int32 → Option (Int32 × AH)) (hK35 : ∀ (z : AH) (z0 : Nat) (z1 : Int32) (z2 : Int32) (z3 : Int32) (z4 : Int32), AO l g M_X11_judge false h0 35 [(0, .ref z0), (1, .int z1), (2, .int z2), (3, .int z3), (4, .int z4)] [] z 0 0 rSi (K35 z z0 z1 z2 z3 z4)) (h : AH) (x0 : Nat) (x1 : Int32) (x2 : Int32) (x4 : Int32) (x5 : Int32) : AO l g M_X11_judge false h0 97 [(0, .ref x0), (1, .int x1), (2, .int x2), (4, .int x4), (5, .int x5)] [] h 0 0 rSi (f_X11_judge_b97 N K35 h x0 x1 x2 x4 x5) := by
  unfold f_X11_judge_b97
  refine a_iload dX11_judge_97 4 rfl ?_
  refine a_istore_n (lc2 := [(3, .int x5), (0, .ref x0), (1, .int x1), (2, .int x2), (4, .int x4), (5, .int x5)]) dX11_judge_99 rfl (by decide) rfl ?_
  refine a_pick (lc2 := [(0, .ref x0), (1, .int x1), (2, .int x2), (3, .int x5), (4, .int x4)]) [1, 2, 3, 0, 4] rfl ?_
  exact t_X11_judge_b100 h0 N K35 hK35 h x0 x1 x2 x5 x4
set_option maxRecDepth 100000 in
set_option maxHeartbeats 4000000 in
theorem t_X11_judge_b80 (h0 : AH) (N : Nat) (K35 : AH → Nat → Int32 → Int32 → Int32 → Int32 → Option (Int32 × AH)) (hK35 : ∀ (z : AH) (z0 : Nat) (z1 : Int32) (z2 : Int32) (z3 : Int32) (z4 : Int32), AO l g M_X11_judge false h0 35 [(0, .ref z0), (1, .int z1), (2, .int z2), (3, .int z3), (4, .int z4)] [] z 0 0 rSi (K35 z z0 z1 z2 z3 z4)) (h : AH) (x0 : Nat) (x1 : Int32) (x3 : Int32) (x4 : Int32) (x5 : Int32) (s5 : Int32) (s6 : Int32) : AO l g M_X11_judge false h0 80 [(0, .ref x0), (1, .int x1), (3, .int x3), (4, .int x4), (5, .int x5)] [.int s5, .int s6] h 0 0 rSi (f_X11_judge_b80 N K35 h x0 x1 x3 x4 x5 s5 s6) := by
  unfold f_X11_judge_b80
  refine a_iadd dX11_judge_80 ?_
  refine a_istore_n (lc2 := [(2, .int (s6 + s5)), (0, .ref x0), (1, .int x1), (3, .int x3), (4, .int x4), (5, .int x5)]) dX11_judge_81 rfl (by decide) rfl ?_
  refine a_iload dX11_judge_82 5 rfl ?_
  refine a_if_le 100 dX11_judge_84 (by decide) (fun c21 => ?_) (fun c21 => ?_)
  · refine a_pick (lc2 := [(0, .ref x0), (1, .int x1), (2, .int (s6 + s5)), (3, .int x3), (4, .int x4)]) [1, 2, 0, 3, 4] rfl ?_
    exact t_X11_judge_b100 h0 N K35 hK35 h x0 x1 (s6 + s5) x3 x4
  · refine a_iload_n dX11_judge_87 rfl 3 rfl ?_
    refine a_if_eq 97 dX11_judge_88 (by decide) (fun c22 => ?_) (fun c22 => ?_)
    · refine a_pick (lc2 := [(0, .ref x0), (1, .int x1), (2, .int (s6 + s5)), (4, .int x4), (5, .int x5)]) [1, 2, 0, 4, 5] rfl ?_
      exact t_X11_judge_b97 h0 N K35 hK35 h x0 x1 (s6 + s5) x4 x5
    · refine a_iload dX11_judge_91 5 rfl ?_
      refine a_iload_n dX11_judge_93 rfl 3 rfl ?_
      refine a_icmp_ge 100 dX11_judge_94 (by decide) (fun c23 => ?_) (fun c23 => ?_)
      · refine a_pick (lc2 := [(0, .ref x0), (1, .int x1), (2, .int (s6 + s5)), (3, .int x3), (4, .int x4)]) [1, 2, 0, 3, 4] rfl ?_
        exact t_X11_judge_b100 h0 N K35 hK35 h x0 x1 (s6 + s5) x3 x4
      · refine a_pick (lc2 := [(0, .ref x0), (1, .int x1), (2, .int (s6 + s5)), (4, .int x4), (5, .int x5)]) [1, 2, 0, 4, 5] rfl ?_
        exact t_X11_judge_b97 h0 N K35 hK35 h x0 x1 (s6 + s5) x4 x5
set_option maxRecDepth 100000 in
set_option maxHeartbeats 4000000 in
theorem t_X11_judge_b35_body (h0 : AH) (N : Nat) (K35 : AH → Nat → Int32 → Int32 → Int32 → Int32 → Option (Int32 × AH)) (hK35 : ∀ (z : AH) (z0 : Nat) (z1 : Int32) (z2 : Int32) (z3 : Int32) (z4 : Int32), AO l g M_X11_judge false h0 35 [(0, .ref z0), (1, .int z1), (2, .int z2), (3, .int z3), (4, .int z4)] [] z 0 0 rSi (K35 z z0 z1 z2 z3 z4)) (h : AH) (x0 : Nat) (x1 : Int32) (x2 : Int32) (x3 : Int32) (x4 : Int32) : AO l g M_X11_judge false h0 35 [(0, .ref x0), (1, .int x1), (2, .int x2), (3, .int x3), (4, .int x4)] [] h 0 0 rSi (f_X11_judge_b35_body N K35 h x0 x1 x2 x3 x4) := by
  unfold f_X11_judge_b35_body
  refine a_iload dX11_judge_35 4 rfl ?_
  refine a_aload_n dX11_judge_37 rfl 0 rfl ?_
  refine a_getr kc12 9 dX11_judge_38 (by decide) rfl w_fieldLink_RainCover_57 (fun v7 => ?_)
  refine a_geti kc8 3 dX11_judge_41 (by decide) rfl w_fieldLink_RainCover_306 (fun v8 => ?_)
  refine a_icmp_ge 106 dX11_judge_44 (by decide) (fun c9 => ?_) (fun c9 => ?_)
  · refine a_iload_n dX11_judge_106 rfl 2 rfl ?_
    refine a_if_gt 122 dX11_judge_107 (by decide) (fun c10 => ?_) (fun c10 => ?_)
    · refine a_aload_n dX11_judge_122 rfl 0 rfl ?_
      refine a_getr kc12 10 dX11_judge_123 (by decide) rfl w_fieldLink_RainCover_60 (fun v11 => ?_)
      refine a_cV_Pi (r := v11) (ci := 8) (as := []) (st := []) dX11_judge_126 (c_X7_isFull l g h v11) rfl km_X7_isFull (hm_X7_isFull) rfl (by decide) rfl (fun _ ee => g_X7_isFull ee) w_methodLink_RainCover_261 w_instanceMethod_RainCover_Table_isFull___Z w_selects_RainCover_Table_RainCover_Table_isFull___Z_RainCover_Table_isFull___Z ⟨⟨by decide, by decide⟩, ⟨by decide, by decide⟩⟩ (Nat.le_of_ble_eq_true rfl) (fun v12 => ?_)
      refine a_if_eq 135 dX11_judge_129 (by decide) (fun c13 => ?_) (fun c13 => ?_)
      · refine a_aload_n dX11_judge_135 rfl 0 rfl ?_
        refine a_iload_n dX11_judge_136 rfl 1 rfl ?_
        refine a_iload_n dX11_judge_137 rfl 3 rfl ?_
        refine a_cV_Sv (r := x0) (ci := 12) (as := [.int x1, .int x3]) (st := []) dX11_judge_138 (c_X11_award l g h x0 x1 x3) rfl km_X11_award (hm_X11_award) rfl (by decide) rfl (fun _ ee => g_X11_award ee) w_methodLink_RainCover_433 w_instanceMethod_RainCover_award__II_V w_selects_RainCover_RainCover_award__II_V_RainCover_award__II_V ⟨⟨by decide, by decide⟩, ⟨by decide, by decide⟩⟩ (Nat.le_of_ble_eq_true rfl) (fun q14 => ?_)
        refine a_iconst (v := 1) dX11_judge_141 (by decide) ?_
        exact a_iret dX11_judge_142 rfl rfl (by decide) (by decide)
      · refine a_bipush (v := (-4)) dX11_judge_132 (by decide) ?_
        exact a_iret dX11_judge_134 rfl rfl (by decide) (by decide)
    · refine a_aload_n dX11_judge_110 rfl 0 rfl ?_
      refine a_getr kc12 11 dX11_judge_111 (by decide) rfl w_fieldLink_RainCover_63 (fun v15 => ?_)
      refine a_iload_n dX11_judge_114 rfl 1 rfl ?_
      refine a_iconst (v := 3) dX11_judge_115 (by decide) ?_
      refine a_iconst (v := 2) dX11_judge_116 (by decide) ?_
      refine a_cV_Sv (r := v15) (ci := 8) (as := [.int x1, .int 3, .int 2]) (st := []) dX11_judge_117 (c_X7_put l g h v15 x1 3 2) rfl km_X7_put (hm_X7_put) rfl (by decide) rfl (fun _ ee => g_X7_put ee) w_methodLink_RainCover_269 w_instanceMethod_RainCover_Table_put__III_V w_selects_RainCover_Table_RainCover_Table_put__III_V_RainCover_Table_put__III_V ⟨⟨by decide, by decide⟩, ⟨by decide, by decide⟩⟩ (Nat.le_of_ble_eq_true rfl) (fun q16 => ?_)
      refine a_iconst (v := 0) dX11_judge_120 (by decide) ?_
      exact a_iret dX11_judge_121 rfl rfl (by decide) (by decide)
  · refine a_aload_n dX11_judge_47 rfl 0 rfl ?_
    refine a_iload_n dX11_judge_48 rfl 1 rfl ?_
    refine a_iload dX11_judge_49 4 rfl ?_
    refine a_cV_Pi (r := x0) (ci := 12) (as := [.int x1, .int x4]) (st := []) dX11_judge_51 (c_X11_isKin l g h N x0 x1 x4) rfl km_X11_isKin (hm_X11_isKin) rfl (by decide) rfl (fun _ ee => g_X11_isKin ee) w_methodLink_RainCover_427 w_instanceMethod_RainCover_isKin__II_Z w_selects_RainCover_RainCover_isKin__II_Z_RainCover_isKin__II_Z ⟨⟨by decide, by decide⟩, ⟨by decide, by decide⟩⟩ (Nat.le_of_ble_eq_true rfl) (fun v17 => ?_)
    refine a_if_ne 60 dX11_judge_54 (by decide) (fun c18 => ?_) (fun c18 => ?_)
    · refine a_goto 100 dX11_judge_57 (by decide) ?_
      exact t_X11_judge_b100 h0 N K35 hK35 h x0 x1 x2 x3 x4
    · refine a_aload_n dX11_judge_60 rfl 0 rfl ?_
      refine a_iload_n dX11_judge_61 rfl 1 rfl ?_
      refine a_iload dX11_judge_62 4 rfl ?_
      refine a_cV_Si (r := x0) (ci := 12) (as := [.int x1, .int x4]) (st := []) dX11_judge_64 (c_X11_hurtOf l g h N x0 x1 x4) rfl km_X11_hurtOf (hm_X11_hurtOf) rfl (by decide) rfl (fun _ ee => g_X11_hurtOf ee) w_methodLink_RainCover_430 w_instanceMethod_RainCover_hurtOf__II_I w_selects_RainCover_RainCover_hurtOf__II_I_RainCover_hurtOf__II_I ⟨⟨by decide, by decide⟩, ⟨by decide, by decide⟩⟩ (Nat.le_of_ble_eq_true rfl) (fun q19 => ?_)
      refine a_istore (lc2 := [(5, .int q19.1), (0, .ref x0), (1, .int x1), (2, .int x2), (3, .int x3), (4, .int x4)]) dX11_judge_67 (by decide) rfl ?_
      refine a_iload_n dX11_judge_69 rfl 3 rfl ?_
      refine a_iload dX11_judge_70 0 rfl ?_
      refine a_if_le 79 dX11_judge_72 (by decide) (fun c20 => ?_) (fun c20 => ?_)
      · refine a_iconst (v := (-1)) dX11_judge_79 (by decide) ?_
        refine a_pick (lc2 := [(0, .ref x0), (1, .int x1), (3, .int x3), (4, .int x4), (5, .int q19.1)]) [1, 2, 4, 5, 0] rfl ?_
        exact t_X11_judge_b80 h0 N K35 hK35 q19.2 x0 x1 x3 x4 q19.1 (-1) x2
      · refine a_iconst (v := 1) dX11_judge_75 (by decide) ?_
        refine a_goto 80 dX11_judge_76 (by decide) ?_
        refine a_pick (lc2 := [(0, .ref x0), (1, .int x1), (3, .int x3), (4, .int x4), (5, .int q19.1)]) [1, 2, 4, 5, 0] rfl ?_
        exact t_X11_judge_b80 h0 N K35 hK35 q19.2 x0 x1 x3 x4 q19.1 1 x2
set_option maxRecDepth 100000 in
set_option maxHeartbeats 4000000 in
theorem t_X11_judge_b35 (h0 : AH) (N : Nat) : ∀ (n : Nat) (h : AH) (x0 : Nat) (x1 : Int32) (x2 : Int32) (x3 : Int32) (x4 : Int32) , AO l g M_X11_judge false h0 35 [(0, .ref x0), (1, .int x1), (2, .int x2), (3, .int x3), (4, .int x4)] [] h 0 0 rSi (f_X11_judge_b35 N  n h x0 x1 x2 x3 x4) := by
  intro n
  induction n with
  | zero => intro h x0 x1 x2 x3 x4; exact a_eq rfl a_none
  | succ n ih => intro h x0 x1 x2 x3 x4; exact a_eq rfl (t_X11_judge_b35_body h0 N  (f_X11_judge_b35 N  n) ih h x0 x1 x2 x3 x4)
end
set_option maxRecDepth 100000 in
set_option maxHeartbeats 4000000 in
theorem c_X11_judge (l : Launch) (g : GG) (h0 : AH) (N : Nat) (p0 : Nat) (p1 : Int32) : CN l g yX11_judge M_X11_judge false [.ref p0, .int p1] h0 rSi (f_X11_judge h0 N p0 p1) := by
  refine CN.of (by decide) rfl (fun hh => by first | rfl | cases hh) (Nat.le_of_ble_eq_true rfl) ?_
  unfold f_X11_judge
  refine a_gd (fun hkd => ?_)
  refine a_aload_n dX11_judge_0 rfl 0 rfl ?_
  refine a_getr kc12 11 dX11_judge_1 (by decide) rfl w_fieldLink_RainCover_63 (fun v1 => ?_)
  refine a_iload_n dX11_judge_4 rfl 1 rfl ?_
  refine a_cV_Pi (r := v1) (ci := 8) (as := [.int p1]) (st := []) dX11_judge_5 (c_X7_has l g h0 v1 p1) rfl km_X7_has (hm_X7_has) rfl (by decide) rfl (fun _ ee => g_X7_has ee) w_methodLink_RainCover_420 w_instanceMethod_RainCover_Table_has__I_Z w_selects_RainCover_Table_RainCover_Table_has__I_Z_RainCover_Table_has__I_Z ⟨⟨by decide, by decide⟩, ⟨by decide, by decide⟩⟩ (Nat.le_of_ble_eq_true rfl) (fun v2 => ?_)
  refine a_if_ne 13 dX11_judge_8 (by decide) (fun c3 => ?_) (fun c3 => ?_)
  · refine a_iconst (v := (-1)) dX11_judge_11 (by decide) ?_
    exact a_iret dX11_judge_12 rfl rfl (by decide) (by decide)
  · refine a_aload_n dX11_judge_13 rfl 0 rfl ?_
    refine a_getr kc12 11 dX11_judge_14 (by decide) rfl w_fieldLink_RainCover_63 (fun v4 => ?_)
    refine a_iload_n dX11_judge_17 rfl 1 rfl ?_
    refine a_iconst (v := 3) dX11_judge_18 (by decide) ?_
    refine a_cV_Pi (r := v4) (ci := 8) (as := [.int p1, .int 3]) (st := []) dX11_judge_19 (c_X7_at l g h0 v4 p1 3) rfl km_X7_at (hm_X7_at) rfl (by decide) rfl (fun _ ee => g_X7_at ee) w_methodLink_RainCover_266 w_instanceMethod_RainCover_Table_at__II_I w_selects_RainCover_Table_RainCover_Table_at__II_I_RainCover_Table_at__II_I ⟨⟨by decide, by decide⟩, ⟨by decide, by decide⟩⟩ (Nat.le_of_ble_eq_true rfl) (fun v5 => ?_)
    refine a_if_eq 28 dX11_judge_22 (by decide) (fun c6 => ?_) (fun c6 => ?_)
    · refine a_iconst (v := 0) dX11_judge_28 (by decide) ?_
      refine a_istore_n (lc2 := [(2, .int 0), (0, .ref p0), (1, .int p1)]) dX11_judge_29 rfl (by decide) rfl ?_
      refine a_iconst (v := 0) dX11_judge_30 (by decide) ?_
      refine a_istore_n (lc2 := [(3, .int 0), (2, .int 0), (0, .ref p0), (1, .int p1)]) dX11_judge_31 rfl (by decide) rfl ?_
      refine a_iconst (v := 0) dX11_judge_32 (by decide) ?_
      refine a_istore (lc2 := [(4, .int 0), (3, .int 0), (2, .int 0), (0, .ref p0), (1, .int p1)]) dX11_judge_33 (by decide) rfl ?_
      refine a_pick (lc2 := [(0, .ref p0), (1, .int p1), (2, .int 0), (3, .int 0), (4, .int 0)]) [3, 4, 2, 1, 0] rfl ?_
      exact t_X11_judge_b35 h0 N N h0 p0 p1 0 0 0
    · refine a_bipush (v := (-3)) dX11_judge_25 (by decide) ?_
      exact a_iret dX11_judge_27 rfl rfl (by decide) (by decide)
theorem dX11_kinOf_0 : decode cX11_kinOf 0 = .ok (.iconst 0, 1) := by decide +kernel
theorem dX11_kinOf_1 : decode cX11_kinOf 1 = .ok (.istore_n 2, 1) := by decide +kernel
theorem dX11_kinOf_2 : decode cX11_kinOf 2 = .ok (.iconst 0, 1) := by decide +kernel
theorem dX11_kinOf_3 : decode cX11_kinOf 3 = .ok (.istore_n 3, 1) := by decide +kernel
theorem dX11_kinOf_4 : decode cX11_kinOf 4 = .ok (.iload_n 3, 1) := by decide +kernel
theorem dX11_kinOf_5 : decode cX11_kinOf 5 = .ok (.aload_n 0, 1) := by decide +kernel
theorem dX11_kinOf_6 : decode cX11_kinOf 6 = .ok (.getfield 57, 3) := by decide +kernel
theorem dX11_kinOf_9 : decode cX11_kinOf 9 = .ok (.getfield 306, 3) := by decide +kernel
theorem dX11_kinOf_12 : decode cX11_kinOf 12 = .ok (.if_icmp .ge 21, 3) := by decide +kernel
theorem dX11_kinOf_15 : decode cX11_kinOf 15 = .ok (.aload_n 0, 1) := by decide +kernel
theorem dX11_kinOf_16 : decode cX11_kinOf 16 = .ok (.iload_n 1, 1) := by decide +kernel
theorem dX11_kinOf_17 : decode cX11_kinOf 17 = .ok (.iload_n 3, 1) := by decide +kernel
theorem dX11_kinOf_18 : decode cX11_kinOf 18 = .ok (.invokevirtual 427, 3) := by decide +kernel
theorem dX11_kinOf_21 : decode cX11_kinOf 21 = .ok (.ifCond .eq 6, 3) := by decide +kernel
theorem dX11_kinOf_24 : decode cX11_kinOf 24 = .ok (.iinc 2 1, 3) := by decide +kernel
theorem dX11_kinOf_27 : decode cX11_kinOf 27 = .ok (.iinc 3 1, 3) := by decide +kernel
theorem dX11_kinOf_30 : decode cX11_kinOf 30 = .ok (.goto (-26), 3) := by decide +kernel
theorem dX11_kinOf_33 : decode cX11_kinOf 33 = .ok (.iload_n 2, 1) := by decide +kernel
theorem dX11_kinOf_34 : decode cX11_kinOf 34 = .ok (.ireturn, 1) := by decide +kernel
abbrev M_X11_kinOf : MI := (RX11, cX11_kinOf, 4, (some .int), ({ frames := 5, cells := 0, slots := 0, locals := 115 } : Room), 0, 0, false)
def f_X11_kinOf_b27 (h : AH) (N : Nat) (K4 : Nat → Int32 → Int32 → Int32 → Option Int32) (x0 : Nat) (x1 : Int32) (x2 : Int32) (x3 : Int32) : Option Int32 := K4 x0 x1 x2 (x3 + 1)
def f_X11_kinOf_b4_body (h : AH) (N : Nat) (K4 : Nat → Int32 → Int32 → Int32 → Option Int32) (x0 : Nat) (x1 : Int32) (x2 : Int32) (x3 : Int32) : Option Int32 := (xgr h x0 12 9).bind fun v1 => (xgi h v1 8 3).bind fun v2 => (if v2 ≤ x3 then some x2 else (f_X11_isKin h N x0 x1 x3).bind fun v4 => (if v4 = 0 then f_X11_kinOf_b27 h N K4 x0 x1 x2 x3 else f_X11_kinOf_b27 h N K4 x0 x1 (x2 + 1) x3))
def f_X11_kinOf_b4 (h : AH) (N : Nat) : Nat → Nat → Int32 → Int32 → Int32 → Option Int32
  | 0, _, _, _, _ => none
  | n + 1, x0, x1, x2, x3 => f_X11_kinOf_b4_body h N  (f_X11_kinOf_b4 h N  n) x0 x1 x2 x3
def f_X11_kinOf (h : AH) (N : Nat) (p0 : Nat) (p1 : Int32) : Option Int32 := if kd h p0 = 12 + 1 then f_X11_kinOf_b4 h N N p0 p1 0 0 else none
theorem g_X11_kinOf {h : AH} {N : Nat} {p0 : Nat} {p1 : Int32} {x : Int32} (e : f_X11_kinOf h N p0 p1 = some x) : kd h p0 = 12 + 1 := by
  unfold f_X11_kinOf at e
  by_cases hk : kd h p0 = 12 + 1
  · exact hk
  · rw [if_neg hk] at e
    cases e
theorem km_X11_kinOf : KM yX11_kinOf M_X11_kinOf 1 := ⟨in_tb 1050 (by decide +kernel) rfl, in_tb 1 (by decide +kernel) rfl, by decide +kernel, rfl, rfl⟩
theorem hm_X11_kinOf : M_X11_kinOf.2.2.2.2.2.1 = 0 ∧ M_X11_kinOf.2.2.2.2.2.2.1 = 0 := ⟨rfl, rfl⟩
section
variable {l : Launch} {g : GG}
set_option maxRecDepth 100000 in
set_option maxHeartbeats 4000000 in
theorem t_X11_kinOf_b27 (h : AH) (N : Nat) (K4 : Nat → Int32 → Int32 → Int32 → Option Int32) (hK4 : ∀ (z0 : Nat) (z1 : Int32) (z2 : Int32) (z3 : Int32), AO l g M_X11_kinOf false h 4 [(0, .ref z0), (1, .int z1), (2, .int z2), (3, .int z3)] [] h 0 0 (rPi h) (K4 z0 z1 z2 z3)) (x0 : Nat) (x1 : Int32) (x2 : Int32) (x3 : Int32) : AO l g M_X11_kinOf false h 27 [(0, .ref x0), (1, .int x1), (2, .int x2), (3, .int x3)] [] h 0 0 (rPi h) (f_X11_kinOf_b27 h N K4 x0 x1 x2 x3) := by
  unfold f_X11_kinOf_b27
  refine a_iinc (q := 3) (v := (x3 + 1)) (lc2 := [(3, .int (x3 + 1)), (0, .ref x0), (1, .int x1), (2, .int x2)]) dX11_kinOf_27 rfl rfl (by decide) rfl ?_
  refine a_goto 4 dX11_kinOf_30 (by decide) ?_
  refine a_pick (lc2 := [(0, .ref x0), (1, .int x1), (2, .int x2), (3, .int (x3 + 1))]) [1, 2, 3, 0] rfl ?_
  exact hK4 x0 x1 x2 (x3 + 1)
set_option maxRecDepth 100000 in
set_option maxHeartbeats 4000000 in
theorem t_X11_kinOf_b4_body (h : AH) (N : Nat) (K4 : Nat → Int32 → Int32 → Int32 → Option Int32) (hK4 : ∀ (z0 : Nat) (z1 : Int32) (z2 : Int32) (z3 : Int32), AO l g M_X11_kinOf false h 4 [(0, .ref z0), (1, .int z1), (2, .int z2), (3, .int z3)] [] h 0 0 (rPi h) (K4 z0 z1 z2 z3)) (x0 : Nat) (x1 : Int32) (x2 : Int32) (x3 : Int32) : AO l g M_X11_kinOf false h 4 [(0, .ref x0), (1, .int x1), (2, .int x2), (3, .int x3)] [] h 0 0 (rPi h) (f_X11_kinOf_b4_body h N K4 x0 x1 x2 x3) := by
  unfold f_X11_kinOf_b4_body
  refine a_iload_n dX11_kinOf_4 rfl 3 rfl ?_
  refine a_aload_n dX11_kinOf_5 rfl 0 rfl ?_
  refine a_getr kc12 9 dX11_kinOf_6 (by decide) rfl w_fieldLink_RainCover_57 (fun v1 => ?_)
  refine a_geti kc8 3 dX11_kinOf_9 (by decide) rfl w_fieldLink_RainCover_306 (fun v2 => ?_)
  refine a_icmp_ge 33 dX11_kinOf_12 (by decide) (fun c3 => ?_) (fun c3 => ?_)
  · refine a_iload_n dX11_kinOf_33 rfl 2 rfl ?_
    exact a_iret dX11_kinOf_34 rfl rfl (by decide) (by decide)
  · refine a_aload_n dX11_kinOf_15 rfl 0 rfl ?_
    refine a_iload_n dX11_kinOf_16 rfl 1 rfl ?_
    refine a_iload_n dX11_kinOf_17 rfl 3 rfl ?_
    refine a_cV_Pi (r := x0) (ci := 12) (as := [.int x1, .int x3]) (st := []) dX11_kinOf_18 (c_X11_isKin l g h N x0 x1 x3) rfl km_X11_isKin (hm_X11_isKin) rfl (by decide) rfl (fun _ ee => g_X11_isKin ee) w_methodLink_RainCover_427 w_instanceMethod_RainCover_isKin__II_Z w_selects_RainCover_RainCover_isKin__II_Z_RainCover_isKin__II_Z ⟨⟨by decide, by decide⟩, ⟨by decide, by decide⟩⟩ (Nat.le_of_ble_eq_true rfl) (fun v4 => ?_)
    refine a_if_eq 27 dX11_kinOf_21 (by decide) (fun c5 => ?_) (fun c5 => ?_)
    · exact t_X11_kinOf_b27 h N K4 hK4 x0 x1 x2 x3
    · refine a_iinc (q := 2) (v := (x2 + 1)) (lc2 := [(2, .int (x2 + 1)), (0, .ref x0), (1, .int x1), (3, .int x3)]) dX11_kinOf_24 rfl rfl (by decide) rfl ?_
      refine a_pick (lc2 := [(0, .ref x0), (1, .int x1), (2, .int (x2 + 1)), (3, .int x3)]) [1, 2, 0, 3] rfl ?_
      exact t_X11_kinOf_b27 h N K4 hK4 x0 x1 (x2 + 1) x3
set_option maxRecDepth 100000 in
set_option maxHeartbeats 4000000 in
theorem t_X11_kinOf_b4 (h : AH) (N : Nat) : ∀ (n : Nat) (x0 : Nat) (x1 : Int32) (x2 : Int32) (x3 : Int32) , AO l g M_X11_kinOf false h 4 [(0, .ref x0), (1, .int x1), (2, .int x2), (3, .int x3)] [] h 0 0 (rPi h) (f_X11_kinOf_b4 h N  n x0 x1 x2 x3) := by
  intro n
  induction n with
  | zero => intro x0 x1 x2 x3; exact a_eq rfl a_none
  | succ n ih => intro x0 x1 x2 x3; exact a_eq rfl (t_X11_kinOf_b4_body h N  (f_X11_kinOf_b4 h N  n) ih x0 x1 x2 x3)
end
set_option maxRecDepth 100000 in
set_option maxHeartbeats 4000000 in
theorem c_X11_kinOf (l : Launch) (g : GG) (h : AH) (N : Nat) (p0 : Nat) (p1 : Int32) : CN l g yX11_kinOf M_X11_kinOf false [.ref p0, .int p1] h ((rPi h)) (f_X11_kinOf h N p0 p1) := by
  refine CN.of (by decide) rfl (fun hh => by first | rfl | cases hh) (Nat.le_of_ble_eq_true rfl) ?_
  unfold f_X11_kinOf
  refine a_gd (fun hkd => ?_)
  refine a_iconst (v := 0) dX11_kinOf_0 (by decide) ?_
  refine a_istore_n (lc2 := [(2, .int 0), (0, .ref p0), (1, .int p1)]) dX11_kinOf_1 rfl (by decide) rfl ?_
  refine a_iconst (v := 0) dX11_kinOf_2 (by decide) ?_
  refine a_istore_n (lc2 := [(3, .int 0), (2, .int 0), (0, .ref p0), (1, .int p1)]) dX11_kinOf_3 rfl (by decide) rfl ?_
  refine a_pick (lc2 := [(0, .ref p0), (1, .int p1), (2, .int 0), (3, .int 0)]) [2, 3, 1, 0] rfl ?_
  exact t_X11_kinOf_b4 h N N p0 p1 0 0
theorem dX11_complaint_0 : decode cX11_complaint 0 = .ok (.aload_n 0, 1) := by decide +kernel
theorem dX11_complaint_1 : decode cX11_complaint 1 = .ok (.getfield 63, 3) := by decide +kernel
theorem dX11_complaint_4 : decode cX11_complaint 4 = .ok (.iload_n 1, 1) := by decide +kernel
theorem dX11_complaint_5 : decode cX11_complaint 5 = .ok (.invokevirtual 420, 3) := by decide +kernel
theorem dX11_complaint_8 : decode cX11_complaint 8 = .ok (.ifCond .ne 6, 3) := by decide +kernel
theorem dX11_complaint_11 : decode cX11_complaint 11 = .ok (.bipush (-5), 2) := by decide +kernel
theorem dX11_complaint_13 : decode cX11_complaint 13 = .ok (.ireturn, 1) := by decide +kernel
theorem dX11_complaint_14 : decode cX11_complaint 14 = .ok (.iload_n 2, 1) := by decide +kernel
theorem dX11_complaint_15 : decode cX11_complaint 15 = .ok (.iconst 5, 1) := by decide +kernel
theorem dX11_complaint_16 : decode cX11_complaint 16 = .ok (.if_icmp .ne 9, 3) := by decide +kernel
theorem dX11_complaint_19 : decode cX11_complaint 19 = .ok (.aload_n 0, 1) := by decide +kernel
theorem dX11_complaint_20 : decode cX11_complaint 20 = .ok (.iload_n 1, 1) := by decide +kernel
theorem dX11_complaint_21 : decode cX11_complaint 21 = .ok (.invokevirtual 436, 3) := by decide +kernel
theorem dX11_complaint_24 : decode cX11_complaint 24 = .ok (.ireturn, 1) := by decide +kernel
theorem dX11_complaint_25 : decode cX11_complaint 25 = .ok (.iload_n 2, 1) := by decide +kernel
theorem dX11_complaint_26 : decode cX11_complaint 26 = .ok (.iconst 0, 1) := by decide +kernel
theorem dX11_complaint_27 : decode cX11_complaint 27 = .ok (.iconst 4, 1) := by decide +kernel
theorem dX11_complaint_28 : decode cX11_complaint 28 = .ok (.invokestatic 120, 3) := by decide +kernel
theorem dX11_complaint_31 : decode cX11_complaint 31 = .ok (.ifCond .eq 15, 3) := by decide +kernel
theorem dX11_complaint_34 : decode cX11_complaint 34 = .ok (.aload_n 0, 1) := by decide +kernel
theorem dX11_complaint_35 : decode cX11_complaint 35 = .ok (.getfield 63, 3) := by decide +kernel
theorem dX11_complaint_38 : decode cX11_complaint 38 = .ok (.iload_n 1, 1) := by decide +kernel
theorem dX11_complaint_39 : decode cX11_complaint 39 = .ok (.iload_n 2, 1) := by decide +kernel
theorem dX11_complaint_40 : decode cX11_complaint 40 = .ok (.invokevirtual 266, 3) := by decide +kernel
theorem dX11_complaint_43 : decode cX11_complaint 43 = .ok (.goto 5, 3) := by decide +kernel
theorem dX11_complaint_46 : decode cX11_complaint 46 = .ok (.bipush (-5), 2) := by decide +kernel
theorem dX11_complaint_48 : decode cX11_complaint 48 = .ok (.ireturn, 1) := by decide +kernel
abbrev M_X11_complaint : MI := (RX11, cX11_complaint, 3, (some .int), ({ frames := 6, cells := 0, slots := 0, locals := 138 } : Room), 0, 0, false)
def f_X11_complaint (h : AH) (N : Nat) (p0 : Nat) (p1 : Int32) (p2 : Int32) : Option Int32 := if kd h p0 = 12 + 1 then (xgr h p0 12 11).bind fun v1 => (f_X7_has h v1 p1).bind fun v2 => (if v2 = 0 then some (-5) else (if p2 = 5 then (f_X11_kinOf h N p0 p1).bind fun v5 => some v5 else (f_X11_within h p2 0 4).bind fun v6 => (if v6 = 0 then some (-5) else (xgr h p0 12 11).bind fun v8 => (f_X7_at h v8 p1 p2).bind fun v9 => some v9))) else none
theorem g_X11_complaint {h : AH} {N : Nat} {p0 : Nat} {p1 : Int32} {p2 : Int32} {x : Int32} (e : f_X11_complaint h N p0 p1 p2 = some x) : kd h p0 = 12 + 1 := by
  unfold f_X11_complaint at e
  by_cases hk : kd h p0 = 12 + 1
  · exact hk
  · rw [if_neg hk] at e
    cases e
theorem km_X11_complaint : KM yX11_complaint M_X11_complaint 2 := ⟨in_tb 1046 (by decide +kernel) rfl, in_tb 1 (by decide +kernel) rfl, by decide +kernel, rfl, rfl⟩
theorem hm_X11_complaint : M_X11_complaint.2.2.2.2.2.1 = 0 ∧ M_X11_complaint.2.2.2.2.2.2.1 = 0 := ⟨rfl, rfl⟩
section
variable {l : Launch} {g : GG}
end
set_option maxRecDepth 100000 in
set_option maxHeartbeats 4000000 in
theorem c_X11_complaint (l : Launch) (g : GG) (h : AH) (N : Nat) (p0 : Nat) (p1 : Int32) (p2 : Int32) : CN l g yX11_complaint M_X11_complaint false [.ref p0, .int p1, .int p2] h ((rPi h)) (f_X11_complaint h N p0 p1 p2) := by
  refine CN.of (by decide) rfl (fun hh => by first | rfl | cases hh) (Nat.le_of_ble_eq_true rfl) ?_
  unfold f_X11_complaint
  refine a_gd (fun hkd => ?_)
  refine a_aload_n dX11_complaint_0 rfl 0 rfl ?_
  refine a_getr kc12 11 dX11_complaint_1 (by decide) rfl w_fieldLink_RainCover_63 (fun v1 => ?_)
  refine a_iload_n dX11_complaint_4 rfl 1 rfl ?_
  refine a_cV_Pi (r := v1) (ci := 8) (as := [.int p1]) (st := []) dX11_complaint_5 (c_X7_has l g h v1 p1) rfl km_X7_has (hm_X7_has) rfl (by decide) rfl (fun _ ee => g_X7_has ee) w_methodLink_RainCover_420 w_instanceMethod_RainCover_Table_has__I_Z w_selects_RainCover_Table_RainCover_Table_has__I_Z_RainCover_Table_has__I_Z ⟨⟨by decide, by decide⟩, ⟨by decide, by decide⟩⟩ (Nat.le_of_ble_eq_true rfl) (fun v2 => ?_)
  refine a_if_ne 14 dX11_complaint_8 (by decide) (fun c3 => ?_) (fun c3 => ?_)
  · refine a_bipush (v := (-5)) dX11_complaint_11 (by decide) ?_
    exact a_iret dX11_complaint_13 rfl rfl (by decide) (by decide)
  · refine a_iload_n dX11_complaint_14 rfl 2 rfl ?_
    refine a_iconst (v := 5) dX11_complaint_15 (by decide) ?_
    refine a_icmp_ne 25 dX11_complaint_16 (by decide) (fun c4 => ?_) (fun c4 => ?_)
    · refine a_aload_n dX11_complaint_19 rfl 0 rfl ?_
      refine a_iload_n dX11_complaint_20 rfl 1 rfl ?_
      refine a_cV_Pi (r := p0) (ci := 12) (as := [.int p1]) (st := []) dX11_complaint_21 (c_X11_kinOf l g h N p0 p1) rfl km_X11_kinOf (hm_X11_kinOf) rfl (by decide) rfl (fun _ ee => g_X11_kinOf ee) w_methodLink_RainCover_436 w_instanceMethod_RainCover_kinOf__I_I w_selects_RainCover_RainCover_kinOf__I_I_RainCover_kinOf__I_I ⟨⟨by decide, by decide⟩, ⟨by decide, by decide⟩⟩ (Nat.le_of_ble_eq_true rfl) (fun v5 => ?_)
      exact a_iret dX11_complaint_24 rfl rfl (by decide) (by decide)
    · refine a_iload_n dX11_complaint_25 rfl 2 rfl ?_
      refine a_iconst (v := 0) dX11_complaint_26 (by decide) ?_
      refine a_iconst (v := 4) dX11_complaint_27 (by decide) ?_
      refine a_cS_Pi (as := [.int p2, .int 0, .int 4]) (st := []) dX11_complaint_28 (c_X11_within l g h p2 0 4) rfl km_X11_within (hm_X11_within) w_methodLink_RainCover_120 w_static_RainCover_within__III_Z ⟨⟨by decide, by decide⟩, ⟨by decide, by decide⟩⟩ (Nat.le_of_ble_eq_true rfl) (fun v6 => ?_)
      refine a_if_eq 46 dX11_complaint_31 (by decide) (fun c7 => ?_) (fun c7 => ?_)
      · refine a_bipush (v := (-5)) dX11_complaint_46 (by decide) ?_
        exact a_iret dX11_complaint_48 rfl rfl (by decide) (by decide)
      · refine a_aload_n dX11_complaint_34 rfl 0 rfl ?_
        refine a_getr kc12 11 dX11_complaint_35 (by decide) rfl w_fieldLink_RainCover_63 (fun v8 => ?_)
        refine a_iload_n dX11_complaint_38 rfl 1 rfl ?_
        refine a_iload_n dX11_complaint_39 rfl 2 rfl ?_
        refine a_cV_Pi (r := v8) (ci := 8) (as := [.int p1, .int p2]) (st := []) dX11_complaint_40 (c_X7_at l g h v8 p1 p2) rfl km_X7_at (hm_X7_at) rfl (by decide) rfl (fun _ ee => g_X7_at ee) w_methodLink_RainCover_266 w_instanceMethod_RainCover_Table_at__II_I w_selects_RainCover_Table_RainCover_Table_at__II_I_RainCover_Table_at__II_I ⟨⟨by decide, by decide⟩, ⟨by decide, by decide⟩⟩ (Nat.le_of_ble_eq_true rfl) (fun v9 => ?_)
        refine a_goto 48 dX11_complaint_43 (by decide) ?_
        exact a_iret dX11_complaint_48 rfl rfl (by decide) (by decide)
theorem dX11_debt_0 : decode cX11_debt 0 = .ok (.aload_n 0, 1) := by decide +kernel
theorem dX11_debt_1 : decode cX11_debt 1 = .ok (.iload_n 1, 1) := by decide +kernel
theorem dX11_debt_2 : decode cX11_debt 2 = .ok (.invokevirtual 254, 3) := by decide +kernel
theorem dX11_debt_5 : decode cX11_debt 5 = .ok (.ifCond .eq 20, 3) := by decide +kernel
theorem dX11_debt_8 : decode cX11_debt 8 = .ok (.aload_n 0, 1) := by decide +kernel
theorem dX11_debt_9 : decode cX11_debt 9 = .ok (.getfield 21, 3) := by decide +kernel
theorem dX11_debt_12 : decode cX11_debt 12 = .ok (.iload_n 1, 1) := by decide +kernel
theorem dX11_debt_13 : decode cX11_debt 13 = .ok (.invokevirtual 124, 3) := by decide +kernel
theorem dX11_debt_16 : decode cX11_debt 16 = .ok (.checkcast 233, 3) := by decide +kernel
theorem dX11_debt_19 : decode cX11_debt 19 = .ok (.getfield 412, 3) := by decide +kernel
theorem dX11_debt_22 : decode cX11_debt 22 = .ok (.goto 4, 3) := by decide +kernel
theorem dX11_debt_25 : decode cX11_debt 25 = .ok (.iconst (-1), 1) := by decide +kernel
theorem dX11_debt_26 : decode cX11_debt 26 = .ok (.ireturn, 1) := by decide +kernel
abbrev M_X11_debt : MI := (RX11, cX11_debt, 2, (some .int), ({ frames := 3, cells := 0, slots := 0, locals := 64 } : Room), 0, 0, false)
def f_X11_debt (h : AH) (p0 : Nat) (p1 : Int32) : Option Int32 := if kd h p0 = 12 + 1 then (f_X11_isFarm h p0 p1).bind fun v1 => (if v1 = 0 then some (-1) else (xgr h p0 12 2).bind fun v3 => (f_Jx4a65c_get_915e3 h v3 p1).bind fun v4 => (xcc h v4 3).bind fun _ => (xgi h v4 3 6).bind fun v5 => some v5) else none
theorem g_X11_debt {h : AH} {p0 : Nat} {p1 : Int32} {x : Int32} (e : f_X11_debt h p0 p1 = some x) : kd h p0 = 12 + 1 := by
  unfold f_X11_debt at e
  by_cases hk : kd h p0 = 12 + 1
  · exact hk
  · rw [if_neg hk] at e
    cases e
theorem km_X11_debt : KM yX11_debt M_X11_debt 1 := ⟨in_tb 1054 (by decide +kernel) rfl, in_tb 1 (by decide +kernel) rfl, by decide +kernel, rfl, rfl⟩
theorem hm_X11_debt : M_X11_debt.2.2.2.2.2.1 = 0 ∧ M_X11_debt.2.2.2.2.2.2.1 = 0 := ⟨rfl, rfl⟩
section
variable {l : Launch} {g : GG}
end
set_option maxRecDepth 100000 in
set_option maxHeartbeats 4000000 in
theorem c_X11_debt (l : Launch) (g : GG) (h : AH) (p0 : Nat) (p1 : Int32) : CN l g yX11_debt M_X11_debt false [.ref p0, .int p1] h ((rPi h)) (f_X11_debt h p0 p1) := by
  refine CN.of (by decide) rfl (fun hh => by first | rfl | cases hh) (Nat.le_of_ble_eq_true rfl) ?_
  unfold f_X11_debt
  refine a_gd (fun hkd => ?_)
  refine a_aload_n dX11_debt_0 rfl 0 rfl ?_
  refine a_iload_n dX11_debt_1 rfl 1 rfl ?_
  refine a_cV_Pi (r := p0) (ci := 12) (as := [.int p1]) (st := []) dX11_debt_2 (c_X11_isFarm l g h p0 p1) rfl km_X11_isFarm (hm_X11_isFarm) rfl (by decide) rfl (fun _ ee => g_X11_isFarm ee) w_methodLink_RainCover_254 w_instanceMethod_RainCover_isFarm__I_Z w_selects_RainCover_RainCover_isFarm__I_Z_RainCover_isFarm__I_Z ⟨⟨by decide, by decide⟩, ⟨by decide, by decide⟩⟩ (Nat.le_of_ble_eq_true rfl) (fun v1 => ?_)
  refine a_if_eq 25 dX11_debt_5 (by decide) (fun c2 => ?_) (fun c2 => ?_)
  · refine a_iconst (v := (-1)) dX11_debt_25 (by decide) ?_
    exact a_iret dX11_debt_26 rfl rfl (by decide) (by decide)
  · refine a_aload_n dX11_debt_8 rfl 0 rfl ?_
    refine a_getr kc12 2 dX11_debt_9 (by decide) rfl w_fieldLink_RainCover_21 (fun v3 => ?_)
    refine a_iload_n dX11_debt_12 rfl 1 rfl ?_
    refine a_cV_Pr (r := v3) (ci := 0) (as := [.int p1]) (st := []) dX11_debt_13 (c_Jx4a65c_get_915e3 l g h v3 p1) rfl km_Jx4a65c_get_915e3 (hm_Jx4a65c_get_915e3) rfl (by decide) rfl (fun _ ee => g_Jx4a65c_get_915e3 ee) w_methodLink_RainCover_124 w_instanceMethod_java_util_ArrayList_get__I_Ljava_lang_Object_ w_selects_java_util_ArrayList_java_util_ArrayList_get__I_Ljava_lang_Object__java_util_ArrayList_get__I_Ljava_lang_Object_ ⟨⟨by decide, by decide⟩, ⟨by decide, by decide⟩⟩ (Nat.le_of_ble_eq_true rfl) (fun v4 => ?_)
    refine a_cast kc3 dX11_debt_16 w_classLink_RainCover_233 ?_
    refine a_geti kc3 6 dX11_debt_19 (by decide) rfl w_fieldLink_RainCover_412 (fun v5 => ?_)
    refine a_goto 26 dX11_debt_22 (by decide) ?_
    exact a_iret dX11_debt_26 rfl rfl (by decide) (by decide)
theorem dX11_group_0 : decode cX11_group 0 = .ok (.aload_n 0, 1) := by decide +kernel
theorem dX11_group_1 : decode cX11_group 1 = .ok (.iload_n 1, 1) := by decide +kernel
theorem dX11_group_2 : decode cX11_group 2 = .ok (.invokevirtual 254, 3) := by decide +kernel
theorem dX11_group_5 : decode cX11_group 5 = .ok (.ifCond .ne 5, 3) := by decide +kernel
theorem dX11_group_8 : decode cX11_group 8 = .ok (.iconst (-1), 1) := by decide +kernel
theorem dX11_group_9 : decode cX11_group 9 = .ok (.ireturn, 1) := by decide +kernel
theorem dX11_group_10 : decode cX11_group 10 = .ok (.iload_n 2, 1) := by decide +kernel
theorem dX11_group_11 : decode cX11_group 11 = .ok (.iconst (-1), 1) := by decide +kernel
theorem dX11_group_12 : decode cX11_group 12 = .ok (.iconst 3, 1) := by decide +kernel
theorem dX11_group_13 : decode cX11_group 13 = .ok (.invokestatic 120, 3) := by decide +kernel
theorem dX11_group_16 : decode cX11_group 16 = .ok (.ifCond .ne 6, 3) := by decide +kernel
theorem dX11_group_19 : decode cX11_group 19 = .ok (.bipush (-5), 2) := by decide +kernel
theorem dX11_group_21 : decode cX11_group 21 = .ok (.ireturn, 1) := by decide +kernel
theorem dX11_group_22 : decode cX11_group 22 = .ok (.aload_n 0, 1) := by decide +kernel
theorem dX11_group_23 : decode cX11_group 23 = .ok (.getfield 21, 3) := by decide +kernel
theorem dX11_group_26 : decode cX11_group 26 = .ok (.iload_n 1, 1) := by decide +kernel
theorem dX11_group_27 : decode cX11_group 27 = .ok (.invokevirtual 124, 3) := by decide +kernel
theorem dX11_group_30 : decode cX11_group 30 = .ok (.checkcast 233, 3) := by decide +kernel
theorem dX11_group_33 : decode cX11_group 33 = .ok (.astore_n 3, 1) := by decide +kernel
theorem dX11_group_34 : decode cX11_group 34 = .ok (.aload_n 3, 1) := by decide +kernel
theorem dX11_group_35 : decode cX11_group 35 = .ok (.getfield 439, 3) := by decide +kernel
theorem dX11_group_38 : decode cX11_group 38 = .ok (.istore 4, 2) := by decide +kernel
theorem dX11_group_40 : decode cX11_group 40 = .ok (.aload_n 3, 1) := by decide +kernel
theorem dX11_group_41 : decode cX11_group 41 = .ok (.iload_n 2, 1) := by decide +kernel
theorem dX11_group_42 : decode cX11_group 42 = .ok (.putfield 439, 3) := by decide +kernel
theorem dX11_group_45 : decode cX11_group 45 = .ok (.iload 4, 2) := by decide +kernel
theorem dX11_group_47 : decode cX11_group 47 = .ok (.ireturn, 1) := by decide +kernel
abbrev M_X11_group : MI := (RX11, cX11_group, 5, (some .int), ({ frames := 3, cells := 0, slots := 0, locals := 64 } : Room), 0, 0, false)
def f_X11_group (h0 : AH) (p0 : Nat) (p1 : Int32) (p2 : Int32) : Option (Int32 × AH) := if kd h0 p0 = 12 + 1 then (f_X11_isFarm h0 p0 p1).bind fun v1 => (if v1 = 0 then some ((-1), h0) else (f_X11_within h0 p2 (-1) 3).bind fun v3 => (if v3 = 0 then some ((-5), h0) else (xgr h0 p0 12 2).bind fun v5 => (f_Jx4a65c_get_915e3 h0 v5 p1).bind fun v6 => (xcc h0 v6 3).bind fun _ => (xgi h0 v6 3 7).bind fun v7 => (xpi h0 v6 3 7 p2).bind fun h8 => some (v7, h8))) else none
theorem g_X11_group {h0 : AH} {p0 : Nat} {p1 : Int32} {p2 : Int32} {x : (Int32 × AH)} (e : f_X11_group h0 p0 p1 p2 = some x) : kd h0 p0 = 12 + 1 := by
  unfold f_X11_group at e
  by_cases hk : kd h0 p0 = 12 + 1
  · exact hk
  · rw [if_neg hk] at e
    cases e
theorem km_X11_group : KM yX11_group M_X11_group 2 := ⟨in_tb 1058 (by decide +kernel) rfl, in_tb 1 (by decide +kernel) rfl, by decide +kernel, rfl, rfl⟩
theorem hm_X11_group : M_X11_group.2.2.2.2.2.1 = 0 ∧ M_X11_group.2.2.2.2.2.2.1 = 0 := ⟨rfl, rfl⟩
section
variable {l : Launch} {g : GG}
end
set_option maxRecDepth 100000 in
set_option maxHeartbeats 4000000 in
theorem c_X11_group (l : Launch) (g : GG) (h0 : AH) (p0 : Nat) (p1 : Int32) (p2 : Int32) : CN l g yX11_group M_X11_group false [.ref p0, .int p1, .int p2] h0 rSi (f_X11_group h0 p0 p1 p2) := by
  refine CN.of (by decide) rfl (fun hh => by first | rfl | cases hh) (Nat.le_of_ble_eq_true rfl) ?_
  unfold f_X11_group
  refine a_gd (fun hkd => ?_)
  refine a_aload_n dX11_group_0 rfl 0 rfl ?_
  refine a_iload_n dX11_group_1 rfl 1 rfl ?_
  refine a_cV_Pi (r := p0) (ci := 12) (as := [.int p1]) (st := []) dX11_group_2 (c_X11_isFarm l g h0 p0 p1) rfl km_X11_isFarm (hm_X11_isFarm) rfl (by decide) rfl (fun _ ee => g_X11_isFarm ee) w_methodLink_RainCover_254 w_instanceMethod_RainCover_isFarm__I_Z w_selects_RainCover_RainCover_isFarm__I_Z_RainCover_isFarm__I_Z ⟨⟨by decide, by decide⟩, ⟨by decide, by decide⟩⟩ (Nat.le_of_ble_eq_true rfl) (fun v1 => ?_)
  refine a_if_ne 10 dX11_group_5 (by decide) (fun c2 => ?_) (fun c2 => ?_)
  · refine a_iconst (v := (-1)) dX11_group_8 (by decide) ?_
    exact a_iret dX11_group_9 rfl rfl (by decide) (by decide)
  · refine a_iload_n dX11_group_10 rfl 2 rfl ?_
    refine a_iconst (v := (-1)) dX11_group_11 (by decide) ?_
    refine a_iconst (v := 3) dX11_group_12 (by decide) ?_
    refine a_cS_Pi (as := [.int p2, .int (-1), .int 3]) (st := []) dX11_group_13 (c_X11_within l g h0 p2 (-1) 3) rfl km_X11_within (hm_X11_within) w_methodLink_RainCover_120 w_static_RainCover_within__III_Z ⟨⟨by decide, by decide⟩, ⟨by decide, by decide⟩⟩ (Nat.le_of_ble_eq_true rfl) (fun v3 => ?_)
    refine a_if_ne 22 dX11_group_16 (by decide) (fun c4 => ?_) (fun c4 => ?_)
    · refine a_bipush (v := (-5)) dX11_group_19 (by decide) ?_
      exact a_iret dX11_group_21 rfl rfl (by decide) (by decide)
    · refine a_aload_n dX11_group_22 rfl 0 rfl ?_
      refine a_getr kc12 2 dX11_group_23 (by decide) rfl w_fieldLink_RainCover_21 (fun v5 => ?_)
      refine a_iload_n dX11_group_26 rfl 1 rfl ?_
      refine a_cV_Pr (r := v5) (ci := 0) (as := [.int p1]) (st := []) dX11_group_27 (c_Jx4a65c_get_915e3 l g h0 v5 p1) rfl km_Jx4a65c_get_915e3 (hm_Jx4a65c_get_915e3) rfl (by decide) rfl (fun _ ee => g_Jx4a65c_get_915e3 ee) w_methodLink_RainCover_124 w_instanceMethod_java_util_ArrayList_get__I_Ljava_lang_Object_ w_selects_java_util_ArrayList_java_util_ArrayList_get__I_Ljava_lang_Object__java_util_ArrayList_get__I_Ljava_lang_Object_ ⟨⟨by decide, by decide⟩, ⟨by decide, by decide⟩⟩ (Nat.le_of_ble_eq_true rfl) (fun v6 => ?_)
      refine a_cast kc3 dX11_group_30 w_classLink_RainCover_233 ?_
      refine a_astore_n (lc2 := [(3, .ref v6), (0, .ref p0), (1, .int p1), (2, .int p2)]) dX11_group_33 rfl (by decide) rfl ?_
      refine a_aload_n dX11_group_34 rfl 0 rfl ?_
      refine a_geti kc3 7 dX11_group_35 (by decide) rfl w_fieldLink_RainCover_439 (fun v7 => ?_)
      refine a_istore (lc2 := [(4, .int v7), (3, .ref v6), (0, .ref p0), (1, .int p1), (2, .int p2)]) dX11_group_38 (by decide) rfl ?_
      refine a_aload_n dX11_group_40 rfl 1 rfl ?_
      refine a_iload_n dX11_group_41 rfl 4 rfl ?_
      refine a_puti kc3 7 dX11_group_42 (by decide) rfl w_fieldLink_RainCover_439 rfl rfl (fun h8 => ?_)
      refine a_iload dX11_group_45 0 rfl ?_
      exact a_iret dX11_group_47 rfl rfl (by decide) (by decide)
theorem dX11_vote_0 : decode cX11_vote 0 = .ok (.aload_n 0, 1) := by decide +kernel
theorem dX11_vote_1 : decode cX11_vote 1 = .ok (.iload_n 1, 1) := by decide +kernel
theorem dX11_vote_2 : decode cX11_vote 2 = .ok (.invokevirtual 254, 3) := by decide +kernel
theorem dX11_vote_5 : decode cX11_vote 5 = .ok (.ifCond .ne 5, 3) := by decide +kernel
theorem dX11_vote_8 : decode cX11_vote 8 = .ok (.iconst (-1), 1) := by decide +kernel
theorem dX11_vote_9 : decode cX11_vote 9 = .ok (.ireturn, 1) := by decide +kernel
theorem dX11_vote_10 : decode cX11_vote 10 = .ok (.iload_n 2, 1) := by decide +kernel
theorem dX11_vote_11 : decode cX11_vote 11 = .ok (.iconst 0, 1) := by decide +kernel
theorem dX11_vote_12 : decode cX11_vote 12 = .ok (.iconst 2, 1) := by decide +kernel
theorem dX11_vote_13 : decode cX11_vote 13 = .ok (.invokestatic 120, 3) := by decide +kernel
theorem dX11_vote_16 : decode cX11_vote 16 = .ok (.ifCond .ne 6, 3) := by decide +kernel
theorem dX11_vote_19 : decode cX11_vote 19 = .ok (.bipush (-2), 2) := by decide +kernel
theorem dX11_vote_21 : decode cX11_vote 21 = .ok (.ireturn, 1) := by decide +kernel
theorem dX11_vote_22 : decode cX11_vote 22 = .ok (.aload_n 0, 1) := by decide +kernel
theorem dX11_vote_23 : decode cX11_vote 23 = .ok (.getfield 21, 3) := by decide +kernel
theorem dX11_vote_26 : decode cX11_vote 26 = .ok (.iload_n 1, 1) := by decide +kernel
theorem dX11_vote_27 : decode cX11_vote 27 = .ok (.invokevirtual 124, 3) := by decide +kernel
theorem dX11_vote_30 : decode cX11_vote 30 = .ok (.checkcast 233, 3) := by decide +kernel
theorem dX11_vote_33 : decode cX11_vote 33 = .ok (.astore_n 3, 1) := by decide +kernel
theorem dX11_vote_34 : decode cX11_vote 34 = .ok (.aload_n 3, 1) := by decide +kernel
theorem dX11_vote_35 : decode cX11_vote 35 = .ok (.getfield 442, 3) := by decide +kernel
theorem dX11_vote_38 : decode cX11_vote 38 = .ok (.istore 4, 2) := by decide +kernel
theorem dX11_vote_40 : decode cX11_vote 40 = .ok (.aload_n 3, 1) := by decide +kernel
theorem dX11_vote_41 : decode cX11_vote 41 = .ok (.iload_n 2, 1) := by decide +kernel
theorem dX11_vote_42 : decode cX11_vote 42 = .ok (.putfield 442, 3) := by decide +kernel
theorem dX11_vote_45 : decode cX11_vote 45 = .ok (.iload 4, 2) := by decide +kernel
theorem dX11_vote_47 : decode cX11_vote 47 = .ok (.ireturn, 1) := by decide +kernel
abbrev M_X11_vote : MI := (RX11, cX11_vote, 5, (some .int), ({ frames := 3, cells := 0, slots := 0, locals := 64 } : Room), 0, 0, false)
def f_X11_vote (h0 : AH) (p0 : Nat) (p1 : Int32) (p2 : Int32) : Option (Int32 × AH) := if kd h0 p0 = 12 + 1 then (f_X11_isFarm h0 p0 p1).bind fun v1 => (if v1 = 0 then some ((-1), h0) else (f_X11_within h0 p2 0 2).bind fun v3 => (if v3 = 0 then some ((-2), h0) else (xgr h0 p0 12 2).bind fun v5 => (f_Jx4a65c_get_915e3 h0 v5 p1).bind fun v6 => (xcc h0 v6 3).bind fun _ => (xgi h0 v6 3 8).bind fun v7 => (xpi h0 v6 3 8 p2).bind fun h8 => some (v7, h8))) else none
theorem g_X11_vote {h0 : AH} {p0 : Nat} {p1 : Int32} {p2 : Int32} {x : (Int32 × AH)} (e : f_X11_vote h0 p0 p1 p2 = some x) : kd h0 p0 = 12 + 1 := by
  unfold f_X11_vote at e
  by_cases hk : kd h0 p0 = 12 + 1
  · exact hk
  · rw [if_neg hk] at e
    cases e
theorem km_X11_vote : KM yX11_vote M_X11_vote 2 := ⟨in_tb 1062 (by decide +kernel) rfl, in_tb 1 (by decide +kernel) rfl, by decide +kernel, rfl, rfl⟩
theorem hm_X11_vote : M_X11_vote.2.2.2.2.2.1 = 0 ∧ M_X11_vote.2.2.2.2.2.2.1 = 0 := ⟨rfl, rfl⟩
section
variable {l : Launch} {g : GG}
end
set_option maxRecDepth 100000 in
set_option maxHeartbeats 4000000 in
theorem c_X11_vote (l : Launch) (g : GG) (h0 : AH) (p0 : Nat) (p1 : Int32) (p2 : Int32) : CN l g yX11_vote M_X11_vote false [.ref p0, .int p1, .int p2] h0 rSi (f_X11_vote h0 p0 p1 p2) := by
  refine CN.of (by decide) rfl (fun hh => by first | rfl | cases hh) (Nat.le_of_ble_eq_true rfl) ?_
  unfold f_X11_vote
  refine a_gd (fun hkd => ?_)
  refine a_aload_n dX11_vote_0 rfl 0 rfl ?_
  refine a_iload_n dX11_vote_1 rfl 1 rfl ?_
  refine a_cV_Pi (r := p0) (ci := 12) (as := [.int p1]) (st := []) dX11_vote_2 (c_X11_isFarm l g h0 p0 p1) rfl km_X11_isFarm (hm_X11_isFarm) rfl (by decide) rfl (fun _ ee => g_X11_isFarm ee) w_methodLink_RainCover_254 w_instanceMethod_RainCover_isFarm__I_Z w_selects_RainCover_RainCover_isFarm__I_Z_RainCover_isFarm__I_Z ⟨⟨by decide, by decide⟩, ⟨by decide, by decide⟩⟩ (Nat.le_of_ble_eq_true rfl) (fun v1 => ?_)
  refine a_if_ne 10 dX11_vote_5 (by decide) (fun c2 => ?_) (fun c2 => ?_)
  · refine a_iconst (v := (-1)) dX11_vote_8 (by decide) ?_
    exact a_iret dX11_vote_9 rfl rfl (by decide) (by decide)
  · refine a_iload_n dX11_vote_10 rfl 2 rfl ?_
    refine a_iconst (v := 0) dX11_vote_11 (by decide) ?_
    refine a_iconst (v := 2) dX11_vote_12 (by decide) ?_
    refine a_cS_Pi (as := [.int p2, .int 0, .int 2]) (st := []) dX11_vote_13 (c_X11_within l g h0 p2 0 2) rfl km_X11_within (hm_X11_within) w_methodLink_RainCover_120 w_static_RainCover_within__III_Z ⟨⟨by decide, by decide⟩, ⟨by decide, by decide⟩⟩ (Nat.le_of_ble_eq_true rfl) (fun v3 => ?_)
    refine a_if_ne 22 dX11_vote_16 (by decide) (fun c4 => ?_) (fun c4 => ?_)
    · refine a_bipush (v := (-2)) dX11_vote_19 (by decide) ?_
      exact a_iret dX11_vote_21 rfl rfl (by decide) (by decide)
    · refine a_aload_n dX11_vote_22 rfl 0 rfl ?_
      refine a_getr kc12 2 dX11_vote_23 (by decide) rfl w_fieldLink_RainCover_21 (fun v5 => ?_)
      refine a_iload_n dX11_vote_26 rfl 1 rfl ?_
      refine a_cV_Pr (r := v5) (ci := 0) (as := [.int p1]) (st := []) dX11_vote_27 (c_Jx4a65c_get_915e3 l g h0 v5 p1) rfl km_Jx4a65c_get_915e3 (hm_Jx4a65c_get_915e3) rfl (by decide) rfl (fun _ ee => g_Jx4a65c_get_915e3 ee) w_methodLink_RainCover_124 w_instanceMethod_java_util_ArrayList_get__I_Ljava_lang_Object_ w_selects_java_util_ArrayList_java_util_ArrayList_get__I_Ljava_lang_Object__java_util_ArrayList_get__I_Ljava_lang_Object_ ⟨⟨by decide, by decide⟩, ⟨by decide, by decide⟩⟩ (Nat.le_of_ble_eq_true rfl) (fun v6 => ?_)
      refine a_cast kc3 dX11_vote_30 w_classLink_RainCover_233 ?_
      refine a_astore_n (lc2 := [(3, .ref v6), (0, .ref p0), (1, .int p1), (2, .int p2)]) dX11_vote_33 rfl (by decide) rfl ?_
      refine a_aload_n dX11_vote_34 rfl 0 rfl ?_
      refine a_geti kc3 8 dX11_vote_35 (by decide) rfl w_fieldLink_RainCover_442 (fun v7 => ?_)
      refine a_istore (lc2 := [(4, .int v7), (3, .ref v6), (0, .ref p0), (1, .int p1), (2, .int p2)]) dX11_vote_38 (by decide) rfl ?_
      refine a_aload_n dX11_vote_40 rfl 1 rfl ?_
      refine a_iload_n dX11_vote_41 rfl 4 rfl ?_
      refine a_puti kc3 8 dX11_vote_42 (by decide) rfl w_fieldLink_RainCover_442 rfl rfl (fun h8 => ?_)
      refine a_iload dX11_vote_45 0 rfl ?_
      exact a_iret dX11_vote_47 rfl rfl (by decide) (by decide)
theorem dX11_dueOfGroup_0 : decode cX11_dueOfGroup 0 = .ok (.lconst 0, 1) := by decide +kernel
theorem dX11_dueOfGroup_1 : decode cX11_dueOfGroup 1 = .ok (.lstore_n 3, 1) := by decide +kernel
theorem dX11_dueOfGroup_2 : decode cX11_dueOfGroup 2 = .ok (.iconst 0, 1) := by decide +kernel
theorem dX11_dueOfGroup_3 : decode cX11_dueOfGroup 3 = .ok (.istore 5, 2) := by decide +kernel
theorem dX11_dueOfGroup_5 : decode cX11_dueOfGroup 5 = .ok (.iload 5, 2) := by decide +kernel
theorem dX11_dueOfGroup_7 : decode cX11_dueOfGroup 7 = .ok (.aload_n 0, 1) := by decide +kernel
theorem dX11_dueOfGroup_8 : decode cX11_dueOfGroup 8 = .ok (.getfield 21, 3) := by decide +kernel
theorem dX11_dueOfGroup_11 : decode cX11_dueOfGroup 11 = .ok (.invokevirtual 104, 3) := by decide +kernel
theorem dX11_dueOfGroup_14 : decode cX11_dueOfGroup 14 = .ok (.if_icmp .ge 53, 3) := by decide +kernel
theorem dX11_dueOfGroup_17 : decode cX11_dueOfGroup 17 = .ok (.aload_n 0, 1) := by decide +kernel
theorem dX11_dueOfGroup_18 : decode cX11_dueOfGroup 18 = .ok (.getfield 21, 3) := by decide +kernel
theorem dX11_dueOfGroup_21 : decode cX11_dueOfGroup 21 = .ok (.iload 5, 2) := by decide +kernel
theorem dX11_dueOfGroup_23 : decode cX11_dueOfGroup 23 = .ok (.invokevirtual 124, 3) := by decide +kernel
theorem dX11_dueOfGroup_26 : decode cX11_dueOfGroup 26 = .ok (.checkcast 233, 3) := by decide +kernel
theorem dX11_dueOfGroup_29 : decode cX11_dueOfGroup 29 = .ok (.getfield 439, 3) := by decide +kernel
theorem dX11_dueOfGroup_32 : decode cX11_dueOfGroup 32 = .ok (.iload_n 1, 1) := by decide +kernel
theorem dX11_dueOfGroup_33 : decode cX11_dueOfGroup 33 = .ok (.if_icmp .ne 28, 3) := by decide +kernel
theorem dX11_dueOfGroup_36 : decode cX11_dueOfGroup 36 = .ok (.lload_n 3, 1) := by decide +kernel
theorem dX11_dueOfGroup_37 : decode cX11_dueOfGroup 37 = .ok (.aload_n 0, 1) := by decide +kernel
theorem dX11_dueOfGroup_38 : decode cX11_dueOfGroup 38 = .ok (.aload_n 0, 1) := by decide +kernel
theorem dX11_dueOfGroup_39 : decode cX11_dueOfGroup 39 = .ok (.getfield 21, 3) := by decide +kernel
theorem dX11_dueOfGroup_42 : decode cX11_dueOfGroup 42 = .ok (.iload 5, 2) := by decide +kernel
theorem dX11_dueOfGroup_44 : decode cX11_dueOfGroup 44 = .ok (.invokevirtual 124, 3) := by decide +kernel
theorem dX11_dueOfGroup_47 : decode cX11_dueOfGroup 47 = .ok (.checkcast 233, 3) := by decide +kernel
theorem dX11_dueOfGroup_50 : decode cX11_dueOfGroup 50 = .ok (.iload_n 2, 1) := by decide +kernel
theorem dX11_dueOfGroup_51 : decode cX11_dueOfGroup 51 = .ok (.aload_n 0, 1) := by decide +kernel
theorem dX11_dueOfGroup_52 : decode cX11_dueOfGroup 52 = .ok (.invokevirtual 179, 3) := by decide +kernel
theorem dX11_dueOfGroup_55 : decode cX11_dueOfGroup 55 = .ok (.invokevirtual 292, 3) := by decide +kernel
theorem dX11_dueOfGroup_58 : decode cX11_dueOfGroup 58 = .ok (.i2l, 1) := by decide +kernel
theorem dX11_dueOfGroup_59 : decode cX11_dueOfGroup 59 = .ok (.ladd, 1) := by decide +kernel
theorem dX11_dueOfGroup_60 : decode cX11_dueOfGroup 60 = .ok (.lstore_n 3, 1) := by decide +kernel
theorem dX11_dueOfGroup_61 : decode cX11_dueOfGroup 61 = .ok (.iinc 5 1, 3) := by decide +kernel
theorem dX11_dueOfGroup_64 : decode cX11_dueOfGroup 64 = .ok (.goto (-59), 3) := by decide +kernel
theorem dX11_dueOfGroup_67 : decode cX11_dueOfGroup 67 = .ok (.lload_n 3, 1) := by decide +kernel
theorem dX11_dueOfGroup_68 : decode cX11_dueOfGroup 68 = .ok (.lreturn, 1) := by decide +kernel
abbrev M_X11_dueOfGroup : MI := (RX11, cX11_dueOfGroup, 6, (some .long), ({ frames := 8, cells := 0, slots := 0, locals := 197 } : Room), 0, 0, false)
def f_X11_dueOfGroup_b61 (N : Nat) (K5 : AH → Nat → Int32 → Int32 → Int64 → Int32 → Option (Int64 × AH)) (h : AH) (x0 : Nat) (x1 : Int32) (x2 : Int32) (x3 : Int64) (x5 : Int32) : Option (Int64 × AH) := K5 h x0 x1 x2 x3 (x5 + 1)
def f_X11_dueOfGroup_b5_body (N : Nat) (K5 : AH → Nat → Int32 → Int32 → Int64 → Int32 → Option (Int64 × AH)) (h : AH) (x0 : Nat) (x1 : Int32) (x2 : Int32) (x3 : Int64) (x5 : Int32) : Option (Int64 × AH) := (xgr h x0 12 2).bind fun v1 => (f_Jx4a65c_size_8abf5 h v1).bind fun v2 => (if v2 ≤ x5 then some (x3, h) else (xgr h x0 12 2).bind fun v4 => (f_Jx4a65c_get_915e3 h v4 x5).bind fun v5 => (xcc h v5 3).bind fun _ => (xgi h v5 3 7).bind fun v6 => (if v6 = x1 then (xgr h x0 12 2).bind fun v8 => (f_Jx4a65c_get_915e3 h v8 x5).bind fun v9 => (xcc h v9 3).bind fun _ => (f_X11_now h x0).bind fun v10 => (f_X11_dueOf h N x0 v9 x2 v10).bind fun q11 => f_X11_dueOfGroup_b61 N K5 q11.2 x0 x1 x2 (x3 + (q11.1 : Int32).toInt64) x5 else f_X11_dueOfGroup_b61 N K5 h x0 x1 x2 x3 x5))
def f_X11_dueOfGroup_b5 (N : Nat) : Nat → AH → Nat → Int32 → Int32 → Int64 → Int32 → Option (Int64 × AH)
  | 0, _, _, _, _, _, _ => none
  | n + 1, h, x0, x1, x2, x3, x5 => f_X11_dueOfGroup_b5_body N  (f_X11_dueOfGroup_b5 N  n) h x0 x1 x2 x3 x5
def f_X11_dueOfGroup (h0 : AH) (N : Nat) (p0 : Nat) (p1 : Int32) (p2 : Int32) : Option (Int64 × AH) := if kd h0 p0 = 12 + 1 then f_X11_dueOfGroup_b5 N N h0 p0 p1 p2 0 0 else none
theorem g_X11_dueOfGroup {h0 : AH} {N : Nat} {p0 : Nat} {p1 : Int32} {p2 : Int32} {x : (Int64 × AH)} (e : f_X11_dueOfGroup h0 N p0 p1 p2 = some x) : kd h0 p0 = 12 + 1 := by
  unfold f_X11_dueOfGroup at e
  by_cases hk : kd h0 p0 = 12 + 1
  · exact hk
  · rw [if_neg hk] at e
    cases e
theorem km_X11_dueOfGroup : KM yX11_dueOfGroup M_X11_dueOfGroup 2 := ⟨in_tb 1070 (by decide +kernel) rfl, in_tb 1 (by decide +kernel) rfl, by decide +kernel, rfl, rfl⟩
theorem hm_X11_dueOfGroup : M_X11_dueOfGroup.2.2.2.2.2.1 = 0 ∧ M_X11_dueOfGroup.2.2.2.2.2.2.1 = 0 := ⟨rfl, rfl⟩
section
variable {l : Launch} {g : GG}
set_option maxRecDepth 100000 in
set_option maxHeartbeats 4000000 in
theorem t_X11_dueOfGroup_b61 (h0 : AH) (N : Nat) (K5 : AH → Nat → Int32 → Int32 → Int64 → Int32 → Option (Int64 × AH)) (hK5 : ∀ (z : AH) (z0 : Nat) (z1 : Int32) (z2 : Int32) (z3 : Int64) (z4 : Int32), AO l g M_X11_dueOfGroup false h0 5 [(0, .ref z0), (1, .int z1), (2, .int z2), (3, .long z3), (5, .int z4)] [] z 0 0 rSl (K5 z z0 z1 z2 z3 z4)) (h : AH) (x0 : Nat) (x1 : Int32) (x2 : Int32) (x3 : Int64) (x5 : Int32) : AO l g M_X11_dueOfGroup false h0 61 [(0, .ref x0), (1, .int x1), (2, .int x2), (3, .long x3), (5, .int x5)] [] h 0 0 rSl (f_X11_dueOfGroup_b61 N K5 h x0 x1 x2 x3 x5) := by
  unfold f_X11_dueOfGroup_b61
  refine a_iinc (q := 4) (v := (x5 + 1)) (lc2 := [(5, .int (x5 + 1)), (0, .ref x0), (1, .int x1), (2, .int x2), (3, .long x3)]) dX11_dueOfGroup_61 rfl rfl (by decide) rfl ?_
  refine a_goto 5 dX11_dueOfGroup_64 (by decide) ?_
  refine a_pick (lc2 := [(0, .ref x0), (1, .int x1), (2, .int x2), (3, .long x3), (5, .int (x5 + 1))]) [1, 2, 3, 4, 0] rfl ?_
  exact hK5 h x0 x1 x2 x3 (x5 + 1)
set_option maxRecDepth 100000 in
set_option maxHeartbeats 4000000 in
theorem t_X11_dueOfGroup_b5_body (h0 : AH) (N : Nat) (K5 : AH → Nat → Int32 → Int32 → Int64 → Int32 → Option (Int64 × AH)) (hK5 : ∀ (z : AH) (z0 : Nat) (z1 : Int32) (z2 : Int32) (z3 : Int64) (z4 : Int32), AO l g M_X11_dueOfGroup false h0 5 [(0, .ref z0), (1, .int z1), (2, .int z2), (3, .long z3), (5, .int z4)] [] z 0 0 rSl (K5 z z0 z1 z2 z3 z4)) (h : AH) (x0 : Nat) (x1 : Int32) (x2 : Int32) (x3 : Int64) (x5 : Int32) : AO l g M_X11_dueOfGroup false h0 5 [(0, .ref x0), (1, .int x1), (2, .int x2), (3, .long x3), (5, .int x5)] [] h 0 0 rSl (f_X11_dueOfGroup_b5_body N K5 h x0 x1 x2 x3 x5) := by
  unfold f_X11_dueOfGroup_b5_body
  refine a_iload dX11_dueOfGroup_5 4 rfl ?_
  refine a_aload_n dX11_dueOfGroup_7 rfl 0 rfl ?_
  refine a_getr kc12 2 dX11_dueOfGroup_8 (by decide) rfl w_fieldLink_RainCover_21 (fun v1 => ?_)
  refine a_cV_Pi (r := v1) (ci := 0) (as := []) (st := [.int x5]) dX11_dueOfGroup_11 (c_Jx4a65c_size_8abf5 l g h v1) rfl km_Jx4a65c_size_8abf5 (hm_Jx4a65c_size_8abf5) rfl (by decide) rfl (fun _ ee => g_Jx4a65c_size_8abf5 ee) w_methodLink_RainCover_104 w_instanceMethod_java_util_ArrayList_size___I w_selects_java_util_ArrayList_java_util_ArrayList_size___I_java_util_ArrayList_size___I ⟨⟨by decide, by decide⟩, ⟨by decide, by decide⟩⟩ (Nat.le_of_ble_eq_true rfl) (fun v2 => ?_)
  refine a_icmp_ge 67 dX11_dueOfGroup_14 (by decide) (fun c3 => ?_) (fun c3 => ?_)
  · refine a_lload_n dX11_dueOfGroup_67 rfl 3 rfl ?_
    exact a_lret dX11_dueOfGroup_68 rfl rfl (by decide) (by decide)
  · refine a_aload_n dX11_dueOfGroup_17 rfl 0 rfl ?_
    refine a_getr kc12 2 dX11_dueOfGroup_18 (by decide) rfl w_fieldLink_RainCover_21 (fun v4 => ?_)
    refine a_iload dX11_dueOfGroup_21 4 rfl ?_
    refine a_cV_Pr (r := v4) (ci := 0) (as := [.int x5]) (st := []) dX11_dueOfGroup_23 (c_Jx4a65c_get_915e3 l g h v4 x5) rfl km_Jx4a65c_get_915e3 (hm_Jx4a65c_get_915e3) rfl (by decide) rfl (fun _ ee => g_Jx4a65c_get_915e3 ee) w_methodLink_RainCover_124 w_instanceMethod_java_util_ArrayList_get__I_Ljava_lang_Object_ w_selects_java_util_ArrayList_java_util_ArrayList_get__I_Ljava_lang_Object__java_util_ArrayList_get__I_Ljava_lang_Object_ ⟨⟨by decide, by decide⟩, ⟨by decide, by decide⟩⟩ (Nat.le_of_ble_eq_true rfl) (fun v5 => ?_)
    refine a_cast kc3 dX11_dueOfGroup_26 w_classLink_RainCover_233 ?_
    refine a_geti kc3 7 dX11_dueOfGroup_29 (by decide) rfl w_fieldLink_RainCover_439 (fun v6 => ?_)
    refine a_iload_n dX11_dueOfGroup_32 rfl 1 rfl ?_
    refine a_icmp_ne 61 dX11_dueOfGroup_33 (by decide) (fun c7 => ?_) (fun c7 => ?_)
    · refine a_lload_n dX11_dueOfGroup_36 rfl 3 rfl ?_
      refine a_aload_n dX11_dueOfGroup_37 rfl 0 rfl ?_
      refine a_aload_n dX11_dueOfGroup_38 rfl 0 rfl ?_
      refine a_getr kc12 2 dX11_dueOfGroup_39 (by decide) rfl w_fieldLink_RainCover_21 (fun v8 => ?_)
      refine a_iload dX11_dueOfGroup_42 4 rfl ?_
      refine a_cV_Pr (r := v8) (ci := 0) (as := [.int x5]) (st := [.ref x0, .long x3]) dX11_dueOfGroup_44 (c_Jx4a65c_get_915e3 l g h v8 x5) rfl km_Jx4a65c_get_915e3 (hm_Jx4a65c_get_915e3) rfl (by decide) rfl (fun _ ee => g_Jx4a65c_get_915e3 ee) w_methodLink_RainCover_124 w_instanceMethod_java_util_ArrayList_get__I_Ljava_lang_Object_ w_selects_java_util_ArrayList_java_util_ArrayList_get__I_Ljava_lang_Object__java_util_ArrayList_get__I_Ljava_lang_Object_ ⟨⟨by decide, by decide⟩, ⟨by decide, by decide⟩⟩ (Nat.le_of_ble_eq_true rfl) (fun v9 => ?_)
      refine a_cast kc3 dX11_dueOfGroup_47 w_classLink_RainCover_233 ?_
      refine a_iload_n dX11_dueOfGroup_50 rfl 2 rfl ?_
      refine a_aload_n dX11_dueOfGroup_51 rfl 0 rfl ?_
      refine a_cV_Pi (r := x0) (ci := 12) (as := []) (st := [.int x2, .ref v9, .ref x0, .long x3]) dX11_dueOfGroup_52 (c_X11_now l g h x0) rfl km_X11_now (hm_X11_now) rfl (by decide) rfl (fun _ ee => g_X11_now ee) w_methodLink_RainCover_179 w_instanceMethod_RainCover_now___I w_selects_RainCover_RainCover_now___I_RainCover_now___I ⟨⟨by decide, by decide⟩, ⟨by decide, by decide⟩⟩ (Nat.le_of_ble_eq_true rfl) (fun v10 => ?_)
      refine a_cV_Si (r := x0) (ci := 12) (as := [.ref v9, .int x2, .int v10]) (st := [.long x3]) dX11_dueOfGroup_55 (c_X11_dueOf l g h N x0 v9 x2 v10) rfl km_X11_dueOf (hm_X11_dueOf) rfl (by decide) rfl (fun _ ee => g_X11_dueOf ee) w_methodLink_RainCover_292 w_instanceMethod_RainCover_dueOf__LRainCover_Farm_II_I w_selects_RainCover_RainCover_dueOf__LRainCover_Farm_II_I_RainCover_dueOf__LRainCover_Farm_II_I ⟨⟨by decide, by decide⟩, ⟨by decide, by decide⟩⟩ (Nat.le_of_ble_eq_true rfl) (fun q11 => ?_)
      refine a_i2l dX11_dueOfGroup_58 ?_
      refine a_ladd dX11_dueOfGroup_59 ?_
      refine a_lstore_n (lc2 := [(3, .long (x3 + (q11.1 : Int32).toInt64)), (0, .ref x0), (1, .int x1), (2, .int x2), (5, .int x5)]) dX11_dueOfGroup_60 rfl (by decide) rfl ?_
      refine a_pick (lc2 := [(0, .ref x0), (1, .int x1), (2, .int x2), (3, .long (x3 + (q11.1 : Int32).toInt64)), (5, .int x5)]) [1, 2, 3, 0, 4] rfl ?_
      exact t_X11_dueOfGroup_b61 h0 N K5 hK5 q11.2 x0 x1 x2 (x3 + (q11.1 : Int32).toInt64) x5
    · exact t_X11_dueOfGroup_b61 h0 N K5 hK5 h x0 x1 x2 x3 x5
set_option maxRecDepth 100000 in
set_option maxHeartbeats 4000000 in
theorem t_X11_dueOfGroup_b5 (h0 : AH) (N : Nat) : ∀ (n : Nat) (h : AH) (x0 : Nat) (x1 : Int32) (x2 : Int32) (x3 : Int64) (x5 : Int32) , AO l g M_X11_dueOfGroup false h0 5 [(0, .ref x0), (1, .int x1), (2, .int x2), (3, .long x3), (5, .int x5)] [] h 0 0 rSl (f_X11_dueOfGroup_b5 N  n h x0 x1 x2 x3 x5) := by
  intro n
  induction n with
  | zero => intro h x0 x1 x2 x3 x5; exact a_eq rfl a_none
  | succ n ih => intro h x0 x1 x2 x3 x5; exact a_eq rfl (t_X11_dueOfGroup_b5_body h0 N  (f_X11_dueOfGroup_b5 N  n) ih h x0 x1 x2 x3 x5)
end
set_option maxRecDepth 100000 in
set_option maxHeartbeats 4000000 in
theorem c_X11_dueOfGroup (l : Launch) (g : GG) (h0 : AH) (N : Nat) (p0 : Nat) (p1 : Int32) (p2 : Int32) : CN l g yX11_dueOfGroup M_X11_dueOfGroup false [.ref p0, .int p1, .int p2] h0 rSl (f_X11_dueOfGroup h0 N p0 p1 p2) := by
  refine CN.of (by decide) rfl (fun hh => by first | rfl | cases hh) (Nat.le_of_ble_eq_true rfl) ?_
  unfold f_X11_dueOfGroup
  refine a_gd (fun hkd => ?_)
  refine a_lconst (v := 0) dX11_dueOfGroup_0 (by decide) ?_
  refine a_lstore_n (lc2 := [(3, .long 0), (0, .ref p0), (1, .int p1), (2, .int p2)]) dX11_dueOfGroup_1 rfl (by decide) rfl ?_
  refine a_iconst (v := 0) dX11_dueOfGroup_2 (by decide) ?_
  refine a_istore (lc2 := [(5, .int 0), (3, .long 0), (0, .ref p0), (1, .int p1), (2, .int p2)]) dX11_dueOfGroup_3 (by decide) rfl ?_
  refine a_pick (lc2 := [(0, .ref p0), (1, .int p1), (2, .int p2), (3, .long 0), (5, .int 0)]) [2, 3, 4, 1, 0] rfl ?_
  exact t_X11_dueOfGroup_b5 h0 N N h0 p0 p1 p2 0 0
theorem dX11_votesFor_0 : decode cX11_votesFor 0 = .ok (.iconst 0, 1) := by decide +kernel
theorem dX11_votesFor_1 : decode cX11_votesFor 1 = .ok (.istore_n 3, 1) := by decide +kernel
theorem dX11_votesFor_2 : decode cX11_votesFor 2 = .ok (.iconst 0, 1) := by decide +kernel
theorem dX11_votesFor_3 : decode cX11_votesFor 3 = .ok (.istore 4, 2) := by decide +kernel
theorem dX11_votesFor_5 : decode cX11_votesFor 5 = .ok (.iload 4, 2) := by decide +kernel
theorem dX11_votesFor_7 : decode cX11_votesFor 7 = .ok (.aload_n 0, 1) := by decide +kernel
theorem dX11_votesFor_8 : decode cX11_votesFor 8 = .ok (.getfield 21, 3) := by decide +kernel
theorem dX11_votesFor_11 : decode cX11_votesFor 11 = .ok (.invokevirtual 104, 3) := by decide +kernel
theorem dX11_votesFor_14 : decode cX11_votesFor 14 = .ok (.if_icmp .ge 50, 3) := by decide +kernel
theorem dX11_votesFor_17 : decode cX11_votesFor 17 = .ok (.aload_n 0, 1) := by decide +kernel
theorem dX11_votesFor_18 : decode cX11_votesFor 18 = .ok (.getfield 21, 3) := by decide +kernel
theorem dX11_votesFor_21 : decode cX11_votesFor 21 = .ok (.iload 4, 2) := by decide +kernel
theorem dX11_votesFor_23 : decode cX11_votesFor 23 = .ok (.invokevirtual 124, 3) := by decide +kernel
theorem dX11_votesFor_26 : decode cX11_votesFor 26 = .ok (.checkcast 233, 3) := by decide +kernel
theorem dX11_votesFor_29 : decode cX11_votesFor 29 = .ok (.getfield 439, 3) := by decide +kernel
theorem dX11_votesFor_32 : decode cX11_votesFor 32 = .ok (.iload_n 1, 1) := by decide +kernel
theorem dX11_votesFor_33 : decode cX11_votesFor 33 = .ok (.if_icmp .ne 25, 3) := by decide +kernel
theorem dX11_votesFor_36 : decode cX11_votesFor 36 = .ok (.aload_n 0, 1) := by decide +kernel
theorem dX11_votesFor_37 : decode cX11_votesFor 37 = .ok (.getfield 21, 3) := by decide +kernel
theorem dX11_votesFor_40 : decode cX11_votesFor 40 = .ok (.iload 4, 2) := by decide +kernel
theorem dX11_votesFor_42 : decode cX11_votesFor 42 = .ok (.invokevirtual 124, 3) := by decide +kernel
theorem dX11_votesFor_45 : decode cX11_votesFor 45 = .ok (.checkcast 233, 3) := by decide +kernel
theorem dX11_votesFor_48 : decode cX11_votesFor 48 = .ok (.getfield 442, 3) := by decide +kernel
theorem dX11_votesFor_51 : decode cX11_votesFor 51 = .ok (.iload_n 2, 1) := by decide +kernel
theorem dX11_votesFor_52 : decode cX11_votesFor 52 = .ok (.if_icmp .ne 6, 3) := by decide +kernel
theorem dX11_votesFor_55 : decode cX11_votesFor 55 = .ok (.iinc 3 1, 3) := by decide +kernel
theorem dX11_votesFor_58 : decode cX11_votesFor 58 = .ok (.iinc 4 1, 3) := by decide +kernel
theorem dX11_votesFor_61 : decode cX11_votesFor 61 = .ok (.goto (-56), 3) := by decide +kernel
theorem dX11_votesFor_64 : decode cX11_votesFor 64 = .ok (.iload_n 3, 1) := by decide +kernel
theorem dX11_votesFor_65 : decode cX11_votesFor 65 = .ok (.ireturn, 1) := by decide +kernel
abbrev M_X11_votesFor : MI := (RX11, cX11_votesFor, 5, (some .int), ({ frames := 3, cells := 0, slots := 0, locals := 64 } : Room), 0, 0, false)
def f_X11_votesFor_b58 (h : AH) (N : Nat) (K5 : Nat → Int32 → Int32 → Int32 → Int32 → Option Int32) (x0 : Nat) (x1 : Int32) (x2 : Int32) (x3 : Int32) (x4 : Int32) : Option Int32 := K5 x0 x1 x2 x3 (x4 + 1)
def f_X11_votesFor_b5_body (h : AH) (N : Nat) (K5 : Nat → Int32 → Int32 → Int32 → Int32 → Option Int32) (x0 : Nat) (x1 : Int32) (x2 : Int32) (x3 : Int32) (x4 : Int32) : Option Int32 := (xgr h x0 12 2).bind fun v1 => (f_Jx4a65c_size_8abf5 h v1).bind fun v2 => (if v2 ≤ x4 then some x3 else (xgr h x0 12 2).bind fun v4 => (f_Jx4a65c_get_915e3 h v4 x4).bind fun v5 => (xcc h v5 3).bind fun _ => (xgi h v5 3 7).bind fun v6 => (if v6 = x1 then (xgr h x0 12 2).bind fun v8 => (f_Jx4a65c_get_915e3 h v8 x4).bind fun v9 => (xcc h v9 3).bind fun _ => (xgi h v9 3 8).bind fun v10 => (if v10 = x2 then f_X11_votesFor_b58 h N K5 x0 x1 x2 (x3 + 1) x4 else f_X11_votesFor_b58 h N K5 x0 x1 x2 x3 x4) else f_X11_votesFor_b58 h N K5 x0 x1 x2 x3 x4))
def f_X11_votesFor_b5 (h : AH) (N : Nat) : Nat → Nat → Int32 → Int32 → Int32 → Int32 → Option Int32
  | 0, _, _, _, _, _ => none
  | n + 1, x0, x1, x2, x3, x4 => f_X11_votesFor_b5_body h N  (f_X11_votesFor_b5 h N  n) x0 x1 x2 x3 x4
def f_X11_votesFor (h : AH) (N : Nat) (p0 : Nat) (p1 : Int32) (p2 : Int32) : Option Int32 := if kd h p0 = 12 + 1 then f_X11_votesFor_b5 h N N p0 p1 p2 0 0 else none
theorem g_X11_votesFor {h : AH} {N : Nat} {p0 : Nat} {p1 : Int32} {p2 : Int32} {x : Int32} (e : f_X11_votesFor h N p0 p1 p2 = some x) : kd h p0 = 12 + 1 := by
  unfold f_X11_votesFor at e
  by_cases hk : kd h p0 = 12 + 1
  · exact hk
  · rw [if_neg hk] at e
    cases e
theorem km_X11_votesFor : KM yX11_votesFor M_X11_votesFor 2 := ⟨in_tb 1078 (by decide +kernel) rfl, in_tb 1 (by decide +kernel) rfl, by decide +kernel, rfl, rfl⟩
theorem hm_X11_votesFor : M_X11_votesFor.2.2.2.2.2.1 = 0 ∧ M_X11_votesFor.2.2.2.2.2.2.1 = 0 := ⟨rfl, rfl⟩
section
variable {l : Launch} {g : GG}
set_option maxRecDepth 100000 in
set_option maxHeartbeats 4000000 in
theorem t_X11_votesFor_b58 (h : AH) (N : Nat) (K5 : Nat → Int32 → Int32 → Int32 → Int32 → Option Int32) (hK5 : ∀ (z0 : Nat) (z1 : Int32) (z2 : Int32) (z3 : Int32) (z4 : Int32), AO l g M_X11_votesFor false h 5 [(0, .ref z0), (1, .int z1), (2, .int z2), (3, .int z3), (4, .int z4)] [] h 0 0 (rPi h) (K5 z0 z1 z2 z3 z4)) (x0 : Nat) (x1 : Int32) (x2 : Int32) (x3 : Int32) (x4 : Int32) : AO l g M_X11_votesFor false h 58 [(0, .ref x0), (1, .int x1), (2, .int x2), (3, .int x3), (4, .int x4)] [] h 0 0 (rPi h) (f_X11_votesFor_b58 h N K5 x0 x1 x2 x3 x4) := by
  unfold f_X11_votesFor_b58
  refine a_iinc (q := 4) (v := (x4 + 1)) (lc2 := [(4, .int (x4 + 1)), (0, .ref x0), (1, .int x1), (2, .int x2), (3, .int x3)]) dX11_votesFor_58 rfl rfl (by decide) rfl ?_
  refine a_goto 5 dX11_votesFor_61 (by decide) ?_
  refine a_pick (lc2 := [(0, .ref x0), (1, .int x1), (2, .int x2), (3, .int x3), (4, .int (x4 + 1))]) [1, 2, 3, 4, 0] rfl ?_
  exact hK5 x0 x1 x2 x3 (x4 + 1)
set_option maxRecDepth 100000 in
set_option maxHeartbeats 4000000 in
theorem t_X11_votesFor_b5_body (h : AH) (N : Nat) (K5 : Nat → Int32 → Int32 → Int32 → Int32 → Option Int32) (hK5 : ∀ (z0 : Nat) (z1 : Int32) (z2 : Int32) (z3 : Int32) (z4 : Int32), AO l g M_X11_votesFor false h 5 [(0, .ref z0), (1, .int z1), (2, .int z2), (3, .int z3), (4, .int z4)] [] h 0 0 (rPi h) (K5 z0 z1 z2 z3 z4)) (x0 : Nat) (x1 : Int32) (x2 : Int32) (x3 : Int32) (x4 : Int32) : AO l g M_X11_votesFor false h 5 [(0, .ref x0), (1, .int x1), (2, .int x2), (3, .int x3), (4, .int x4)] [] h 0 0 (rPi h) (f_X11_votesFor_b5_body h N K5 x0 x1 x2 x3 x4) := by
  unfold f_X11_votesFor_b5_body
  refine a_iload dX11_votesFor_5 4 rfl ?_
  refine a_aload_n dX11_votesFor_7 rfl 0 rfl ?_
  refine a_getr kc12 2 dX11_votesFor_8 (by decide) rfl w_fieldLink_RainCover_21 (fun v1 => ?_)
  refine a_cV_Pi (r := v1) (ci := 0) (as := []) (st := [.int x4]) dX11_votesFor_11 (c_Jx4a65c_size_8abf5 l g h v1) rfl km_Jx4a65c_size_8abf5 (hm_Jx4a65c_size_8abf5) rfl (by decide) rfl (fun _ ee => g_Jx4a65c_size_8abf5 ee) w_methodLink_RainCover_104 w_instanceMethod_java_util_ArrayList_size___I w_selects_java_util_ArrayList_java_util_ArrayList_size___I_java_util_ArrayList_size___I ⟨⟨by decide, by decide⟩, ⟨by decide, by decide⟩⟩ (Nat.le_of_ble_eq_true rfl) (fun v2 => ?_)
  refine a_icmp_ge 64 dX11_votesFor_14 (by decide) (fun c3 => ?_) (fun c3 => ?_)
  · refine a_iload_n dX11_votesFor_64 rfl 3 rfl ?_
    exact a_iret dX11_votesFor_65 rfl rfl (by decide) (by decide)
  · refine a_aload_n dX11_votesFor_17 rfl 0 rfl ?_
    refine a_getr kc12 2 dX11_votesFor_18 (by decide) rfl w_fieldLink_RainCover_21 (fun v4 => ?_)
    refine a_iload dX11_votesFor_21 4 rfl ?_
    refine a_cV_Pr (r := v4) (ci := 0) (as := [.int x4]) (st := []) dX11_votesFor_23 (c_Jx4a65c_get_915e3 l g h v4 x4) rfl km_Jx4a65c_get_915e3 (hm_Jx4a65c_get_915e3) rfl (by decide) rfl (fun _ ee => g_Jx4a65c_get_915e3 ee) w_methodLink_RainCover_124 w_instanceMethod_java_util_ArrayList_get__I_Ljava_lang_Object_ w_selects_java_util_ArrayList_java_util_ArrayList_get__I_Ljava_lang_Object__java_util_ArrayList_get__I_Ljava_lang_Object_ ⟨⟨by decide, by decide⟩, ⟨by decide, by decide⟩⟩ (Nat.le_of_ble_eq_true rfl) (fun v5 => ?_)
    refine a_cast kc3 dX11_votesFor_26 w_classLink_RainCover_233 ?_
    refine a_geti kc3 7 dX11_votesFor_29 (by decide) rfl w_fieldLink_RainCover_439 (fun v6 => ?_)
    refine a_iload_n dX11_votesFor_32 rfl 1 rfl ?_
    refine a_icmp_ne 58 dX11_votesFor_33 (by decide) (fun c7 => ?_) (fun c7 => ?_)
    · refine a_aload_n dX11_votesFor_36 rfl 0 rfl ?_
      refine a_getr kc12 2 dX11_votesFor_37 (by decide) rfl w_fieldLink_RainCover_21 (fun v8 => ?_)
      refine a_iload dX11_votesFor_40 4 rfl ?_
      refine a_cV_Pr (r := v8) (ci := 0) (as := [.int x4]) (st := []) dX11_votesFor_42 (c_Jx4a65c_get_915e3 l g h v8 x4) rfl km_Jx4a65c_get_915e3 (hm_Jx4a65c_get_915e3) rfl (by decide) rfl (fun _ ee => g_Jx4a65c_get_915e3 ee) w_methodLink_RainCover_124 w_instanceMethod_java_util_ArrayList_get__I_Ljava_lang_Object_ w_selects_java_util_ArrayList_java_util_ArrayList_get__I_Ljava_lang_Object__java_util_ArrayList_get__I_Ljava_lang_Object_ ⟨⟨by decide, by decide⟩, ⟨by decide, by decide⟩⟩ (Nat.le_of_ble_eq_true rfl) (fun v9 => ?_)
      refine a_cast kc3 dX11_votesFor_45 w_classLink_RainCover_233 ?_
      refine a_geti kc3 8 dX11_votesFor_48 (by decide) rfl w_fieldLink_RainCover_442 (fun v10 => ?_)
      refine a_iload_n dX11_votesFor_51 rfl 2 rfl ?_
      refine a_icmp_ne 58 dX11_votesFor_52 (by decide) (fun c11 => ?_) (fun c11 => ?_)
      · refine a_iinc (q := 3) (v := (x3 + 1)) (lc2 := [(3, .int (x3 + 1)), (0, .ref x0), (1, .int x1), (2, .int x2), (4, .int x4)]) dX11_votesFor_55 rfl rfl (by decide) rfl ?_
        refine a_pick (lc2 := [(0, .ref x0), (1, .int x1), (2, .int x2), (3, .int (x3 + 1)), (4, .int x4)]) [1, 2, 3, 0, 4] rfl ?_
        exact t_X11_votesFor_b58 h N K5 hK5 x0 x1 x2 (x3 + 1) x4
      · exact t_X11_votesFor_b58 h N K5 hK5 x0 x1 x2 x3 x4
    · exact t_X11_votesFor_b58 h N K5 hK5 x0 x1 x2 x3 x4
set_option maxRecDepth 100000 in
set_option maxHeartbeats 4000000 in
theorem t_X11_votesFor_b5 (h : AH) (N : Nat) : ∀ (n : Nat) (x0 : Nat) (x1 : Int32) (x2 : Int32) (x3 : Int32) (x4 : Int32) , AO l g M_X11_votesFor false h 5 [(0, .ref x0), (1, .int x1), (2, .int x2), (3, .int x3), (4, .int x4)] [] h 0 0 (rPi h) (f_X11_votesFor_b5 h N  n x0 x1 x2 x3 x4) := by
  intro n
  induction n with
  | zero => intro x0 x1 x2 x3 x4; exact a_eq rfl a_none
  | succ n ih => intro x0 x1 x2 x3 x4; exact a_eq rfl (t_X11_votesFor_b5_body h N  (f_X11_votesFor_b5 h N  n) ih x0 x1 x2 x3 x4)
end
set_option maxRecDepth 100000 in
set_option maxHeartbeats 4000000 in
theorem c_X11_votesFor (l : Launch) (g : GG) (h : AH) (N : Nat) (p0 : Nat) (p1 : Int32) (p2 : Int32) : CN l g yX11_votesFor M_X11_votesFor false [.ref p0, .int p1, .int p2] h ((rPi h)) (f_X11_votesFor h N p0 p1 p2) := by
  refine CN.of (by decide) rfl (fun hh => by first | rfl | cases hh) (Nat.le_of_ble_eq_true rfl) ?_
  unfold f_X11_votesFor
  refine a_gd (fun hkd => ?_)
  refine a_iconst (v := 0) dX11_votesFor_0 (by decide) ?_
  refine a_istore_n (lc2 := [(3, .int 0), (0, .ref p0), (1, .int p1), (2, .int p2)]) dX11_votesFor_1 rfl (by decide) rfl ?_
  refine a_iconst (v := 0) dX11_votesFor_2 (by decide) ?_
  refine a_istore (lc2 := [(4, .int 0), (3, .int 0), (0, .ref p0), (1, .int p1), (2, .int p2)]) dX11_votesFor_3 (by decide) rfl ?_
  refine a_pick (lc2 := [(0, .ref p0), (1, .int p1), (2, .int p2), (3, .int 0), (4, .int 0)]) [2, 3, 4, 1, 0] rfl ?_
  exact t_X11_votesFor_b5 h N N p0 p1 p2 0 0
theorem dX11_ruleOf_0 : decode cX11_ruleOf 0 = .ok (.iconst 0, 1) := by decide +kernel
theorem dX11_ruleOf_1 : decode cX11_ruleOf 1 = .ok (.istore_n 2, 1) := by decide +kernel
theorem dX11_ruleOf_2 : decode cX11_ruleOf 2 = .ok (.iconst 0, 1) := by decide +kernel
theorem dX11_ruleOf_3 : decode cX11_ruleOf 3 = .ok (.istore_n 3, 1) := by decide +kernel
theorem dX11_ruleOf_4 : decode cX11_ruleOf 4 = .ok (.iconst 0, 1) := by decide +kernel
theorem dX11_ruleOf_5 : decode cX11_ruleOf 5 = .ok (.istore 4, 2) := by decide +kernel
theorem dX11_ruleOf_7 : decode cX11_ruleOf 7 = .ok (.iload 4, 2) := by decide +kernel
theorem dX11_ruleOf_9 : decode cX11_ruleOf 9 = .ok (.iconst 3, 1) := by decide +kernel
theorem dX11_ruleOf_10 : decode cX11_ruleOf 10 = .ok (.if_icmp .ge 30, 3) := by decide +kernel
theorem dX11_ruleOf_13 : decode cX11_ruleOf 13 = .ok (.aload_n 0, 1) := by decide +kernel
theorem dX11_ruleOf_14 : decode cX11_ruleOf 14 = .ok (.iload_n 1, 1) := by decide +kernel
theorem dX11_ruleOf_15 : decode cX11_ruleOf 15 = .ok (.iload 4, 2) := by decide +kernel
theorem dX11_ruleOf_17 : decode cX11_ruleOf 17 = .ok (.invokevirtual 460, 3) := by decide +kernel
theorem dX11_ruleOf_20 : decode cX11_ruleOf 20 = .ok (.istore 5, 2) := by decide +kernel
theorem dX11_ruleOf_22 : decode cX11_ruleOf 22 = .ok (.iload 5, 2) := by decide +kernel
theorem dX11_ruleOf_24 : decode cX11_ruleOf 24 = .ok (.iload_n 3, 1) := by decide +kernel
theorem dX11_ruleOf_25 : decode cX11_ruleOf 25 = .ok (.if_icmp .le 9, 3) := by decide +kernel
theorem dX11_ruleOf_28 : decode cX11_ruleOf 28 = .ok (.iload 5, 2) := by decide +kernel
theorem dX11_ruleOf_30 : decode cX11_ruleOf 30 = .ok (.istore_n 3, 1) := by decide +kernel
theorem dX11_ruleOf_31 : decode cX11_ruleOf 31 = .ok (.iload 4, 2) := by decide +kernel
theorem dX11_ruleOf_33 : decode cX11_ruleOf 33 = .ok (.istore_n 2, 1) := by decide +kernel
theorem dX11_ruleOf_34 : decode cX11_ruleOf 34 = .ok (.iinc 4 1, 3) := by decide +kernel
theorem dX11_ruleOf_37 : decode cX11_ruleOf 37 = .ok (.goto (-30), 3) := by decide +kernel
theorem dX11_ruleOf_40 : decode cX11_ruleOf 40 = .ok (.iload_n 2, 1) := by decide +kernel
theorem dX11_ruleOf_41 : decode cX11_ruleOf 41 = .ok (.ireturn, 1) := by decide +kernel
abbrev M_X11_ruleOf : MI := (RX11, cX11_ruleOf, 6, (some .int), ({ frames := 4, cells := 0, slots := 0, locals := 88 } : Room), 0, 0, false)
def f_X11_ruleOf_b34 (h : AH) (N : Nat) (K7 : Nat → Int32 → Int32 → Int32 → Int32 → Option Int32) (x0 : Nat) (x1 : Int32) (x2 : Int32) (x3 : Int32) (x4 : Int32) : Option Int32 := K7 x0 x1 x2 x3 (x4 + 1)
def f_X11_ruleOf_b7_body (h : AH) (N : Nat) (K7 : Nat → Int32 → Int32 → Int32 → Int32 → Option Int32) (x0 : Nat) (x1 : Int32) (x2 : Int32) (x3 : Int32) (x4 : Int32) : Option Int32 := (if 3 ≤ x4 then some x2 else (f_X11_votesFor h N x0 x1 x4).bind fun v2 => (if v2 ≤ x3 then f_X11_ruleOf_b34 h N K7 x0 x1 x2 x3 x4 else f_X11_ruleOf_b34 h N K7 x0 x1 x4 v2 x4))
def f_X11_ruleOf_b7 (h : AH) (N : Nat) : Nat → Nat → Int32 → Int32 → Int32 → Int32 → Option Int32
  | 0, _, _, _, _, _ => none
  | n + 1, x0, x1, x2, x3, x4 => f_X11_ruleOf_b7_body h N  (f_X11_ruleOf_b7 h N  n) x0 x1 x2 x3 x4
def f_X11_ruleOf (h : AH) (N : Nat) (p0 : Nat) (p1 : Int32) : Option Int32 := if kd h p0 = 12 + 1 then f_X11_ruleOf_b7 h N N p0 p1 0 0 0 else none
theorem g_X11_ruleOf {h : AH} {N : Nat} {p0 : Nat} {p1 : Int32} {x : Int32} (e : f_X11_ruleOf h N p0 p1 = some x) : kd h p0 = 12 + 1 := by
  unfold f_X11_ruleOf at e
  by_cases hk : kd h p0 = 12 + 1
  · exact hk
  · rw [if_neg hk] at e
    cases e
theorem km_X11_ruleOf : KM yX11_ruleOf M_X11_ruleOf 1 := ⟨in_tb 1074 (by decide +kernel) rfl, in_tb 1 (by decide +kernel) rfl, by decide +kernel, rfl, rfl⟩
theorem hm_X11_ruleOf : M_X11_ruleOf.2.2.2.2.2.1 = 0 ∧ M_X11_ruleOf.2.2.2.2.2.2.1 = 0 := ⟨rfl, rfl⟩
section
variable {l : Launch} {g : GG}
set_option maxRecDepth 100000 in
set_option maxHeartbeats 4000000 in
theorem t_X11_ruleOf_b34 (h : AH) (N : Nat) (K7 : Nat → Int32 → Int32 → Int32 → Int32 → Option Int32) (hK7 : ∀ (z0 : Nat) (z1 : Int32) (z2 : Int32) (z3 : Int32) (z4 : Int32), AO l g M_X11_ruleOf false h 7 [(0, .ref z0), (1, .int z1), (2, .int z2), (3, .int z3), (4, .int z4)] [] h 0 0 (rPi h) (K7 z0 z1 z2 z3 z4)) (x0 : Nat) (x1 : Int32) (x2 : Int32) (x3 : Int32) (x4 : Int32) : AO l g M_X11_ruleOf false h 34 [(0, .ref x0), (1, .int x1), (2, .int x2), (3, .int x3), (4, .int x4)] [] h 0 0 (rPi h) (f_X11_ruleOf_b34 h N K7 x0 x1 x2 x3 x4) := by
  unfold f_X11_ruleOf_b34
  refine a_iinc (q := 4) (v := (x4 + 1)) (lc2 := [(4, .int (x4 + 1)), (0, .ref x0), (1, .int x1), (2, .int x2), (3, .int x3)]) dX11_ruleOf_34 rfl rfl (by decide) rfl ?_
  refine a_goto 7 dX11_ruleOf_37 (by decide) ?_
  refine a_pick (lc2 := [(0, .ref x0), (1, .int x1), (2, .int x2), (3, .int x3), (4, .int (x4 + 1))]) [1, 2, 3, 4, 0] rfl ?_
  exact hK7 x0 x1 x2 x3 (x4 + 1)
set_option maxRecDepth 100000 in
set_option maxHeartbeats 4000000 in
theorem t_X11_ruleOf_b7_body (h : AH) (N : Nat) (K7 : Nat → Int32 → Int32 → Int32 → Int32 → Option Int32) (hK7 : ∀ (z0 : Nat) (z1 : Int32) (z2 : Int32) (z3 : Int32) (z4 : Int32), AO l g M_X11_ruleOf false h 7 [(0, .ref z0), (1, .int z1), (2, .int z2), (3, .int z3), (4, .int z4)] [] h 0 0 (rPi h) (K7 z0 z1 z2 z3 z4)) (x0 : Nat) (x1 : Int32) (x2 : Int32) (x3 : Int32) (x4 : Int32) : AO l g M_X11_ruleOf false h 7 [(0, .ref x0), (1, .int x1), (2, .int x2), (3, .int x3), (4, .int x4)] [] h 0 0 (rPi h) (f_X11_ruleOf_b7_body h N K7 x0 x1 x2 x3 x4) := by
  unfold f_X11_ruleOf_b7_body
  refine a_iload dX11_ruleOf_7 4 rfl ?_
  refine a_iconst (v := 3) dX11_ruleOf_9 (by decide) ?_
  refine a_icmp_ge 40 dX11_ruleOf_10 (by decide) (fun c1 => ?_) (fun c1 => ?_)
  · refine a_iload_n dX11_ruleOf_40 rfl 2 rfl ?_
    exact a_iret dX11_ruleOf_41 rfl rfl (by decide) (by decide)
  · refine a_aload_n dX11_ruleOf_13 rfl 0 rfl ?_
    refine a_iload_n dX11_ruleOf_14 rfl 1 rfl ?_
    refine a_iload dX11_ruleOf_15 4 rfl ?_
    refine a_cV_Pi (r := x0) (ci := 12) (as := [.int x1, .int x4]) (st := []) dX11_ruleOf_17 (c_X11_votesFor l g h N x0 x1 x4) rfl km_X11_votesFor (hm_X11_votesFor) rfl (by decide) rfl (fun _ ee => g_X11_votesFor ee) w_methodLink_RainCover_460 w_instanceMethod_RainCover_votesFor__II_I w_selects_RainCover_RainCover_votesFor__II_I_RainCover_votesFor__II_I ⟨⟨by decide, by decide⟩, ⟨by decide, by decide⟩⟩ (Nat.le_of_ble_eq_true rfl) (fun v2 => ?_)
    refine a_istore (lc2 := [(5, .int v2), (0, .ref x0), (1, .int x1), (2, .int x2), (3, .int x3), (4, .int x4)]) dX11_ruleOf_20 (by decide) rfl ?_
    refine a_iload dX11_ruleOf_22 0 rfl ?_
    refine a_iload_n dX11_ruleOf_24 rfl 4 rfl ?_
    refine a_icmp_le 34 dX11_ruleOf_25 (by decide) (fun c3 => ?_) (fun c3 => ?_)
    · refine a_pick (lc2 := [(0, .ref x0), (1, .int x1), (2, .int x2), (3, .int x3), (4, .int x4)]) [1, 2, 3, 4, 5] rfl ?_
      exact t_X11_ruleOf_b34 h N K7 hK7 x0 x1 x2 x3 x4
    · refine a_iload dX11_ruleOf_28 0 rfl ?_
      refine a_istore_n (lc2 := [(3, .int v2), (5, .int v2), (0, .ref x0), (1, .int x1), (2, .int x2), (4, .int x4)]) dX11_ruleOf_30 rfl (by decide) rfl ?_
      refine a_iload dX11_ruleOf_31 5 rfl ?_
      refine a_istore_n (lc2 := [(2, .int x4), (3, .int v2), (5, .int v2), (0, .ref x0), (1, .int x1), (4, .int x4)]) dX11_ruleOf_33 rfl (by decide) rfl ?_
      refine a_pick (lc2 := [(0, .ref x0), (1, .int x1), (2, .int x4), (3, .int v2), (4, .int x4)]) [3, 4, 0, 1, 5] rfl ?_
      exact t_X11_ruleOf_b34 h N K7 hK7 x0 x1 x4 v2 x4
set_option maxRecDepth 100000 in
set_option maxHeartbeats 4000000 in
theorem t_X11_ruleOf_b7 (h : AH) (N : Nat) : ∀ (n : Nat) (x0 : Nat) (x1 : Int32) (x2 : Int32) (x3 : Int32) (x4 : Int32) , AO l g M_X11_ruleOf false h 7 [(0, .ref x0), (1, .int x1), (2, .int x2), (3, .int x3), (4, .int x4)] [] h 0 0 (rPi h) (f_X11_ruleOf_b7 h N  n x0 x1 x2 x3 x4) := by
  intro n
  induction n with
  | zero => intro x0 x1 x2 x3 x4; exact a_eq rfl a_none
  | succ n ih => intro x0 x1 x2 x3 x4; exact a_eq rfl (t_X11_ruleOf_b7_body h N  (f_X11_ruleOf_b7 h N  n) ih x0 x1 x2 x3 x4)
end
set_option maxRecDepth 100000 in
set_option maxHeartbeats 4000000 in
theorem c_X11_ruleOf (l : Launch) (g : GG) (h : AH) (N : Nat) (p0 : Nat) (p1 : Int32) : CN l g yX11_ruleOf M_X11_ruleOf false [.ref p0, .int p1] h ((rPi h)) (f_X11_ruleOf h N p0 p1) := by
  refine CN.of (by decide) rfl (fun hh => by first | rfl | cases hh) (Nat.le_of_ble_eq_true rfl) ?_
  unfold f_X11_ruleOf
  refine a_gd (fun hkd => ?_)
  refine a_iconst (v := 0) dX11_ruleOf_0 (by decide) ?_
  refine a_istore_n (lc2 := [(2, .int 0), (0, .ref p0), (1, .int p1)]) dX11_ruleOf_1 rfl (by decide) rfl ?_
  refine a_iconst (v := 0) dX11_ruleOf_2 (by decide) ?_
  refine a_istore_n (lc2 := [(3, .int 0), (2, .int 0), (0, .ref p0), (1, .int p1)]) dX11_ruleOf_3 rfl (by decide) rfl ?_
  refine a_iconst (v := 0) dX11_ruleOf_4 (by decide) ?_
  refine a_istore (lc2 := [(4, .int 0), (3, .int 0), (2, .int 0), (0, .ref p0), (1, .int p1)]) dX11_ruleOf_5 (by decide) rfl ?_
  refine a_pick (lc2 := [(0, .ref p0), (1, .int p1), (2, .int 0), (3, .int 0), (4, .int 0)]) [3, 4, 2, 1, 0] rfl ?_
  exact t_X11_ruleOf_b7 h N N p0 p1 0 0 0
theorem dX11_weightOf_0 : decode cX11_weightOf 0 = .ok (.iload_n 3, 1) := by decide +kernel
theorem dX11_weightOf_1 : decode cX11_weightOf 1 = .ok (.ifCond .ne 5, 3) := by decide +kernel
theorem dX11_weightOf_4 : decode cX11_weightOf 4 = .ok (.lconst 1, 1) := by decide +kernel
theorem dX11_weightOf_5 : decode cX11_weightOf 5 = .ok (.lreturn, 1) := by decide +kernel
theorem dX11_weightOf_6 : decode cX11_weightOf 6 = .ok (.iload_n 3, 1) := by decide +kernel
theorem dX11_weightOf_7 : decode cX11_weightOf 7 = .ok (.iconst 1, 1) := by decide +kernel
theorem dX11_weightOf_8 : decode cX11_weightOf 8 = .ok (.if_icmp .ne 9, 3) := by decide +kernel
theorem dX11_weightOf_11 : decode cX11_weightOf 11 = .ok (.aload_n 1, 1) := by decide +kernel
theorem dX11_weightOf_12 : decode cX11_weightOf 12 = .ok (.getfield 321, 3) := by decide +kernel
theorem dX11_weightOf_15 : decode cX11_weightOf 15 = .ok (.i2l, 1) := by decide +kernel
theorem dX11_weightOf_16 : decode cX11_weightOf 16 = .ok (.lreturn, 1) := by decide +kernel
theorem dX11_weightOf_17 : decode cX11_weightOf 17 = .ok (.aload_n 0, 1) := by decide +kernel
theorem dX11_weightOf_18 : decode cX11_weightOf 18 = .ok (.getfield 57, 3) := by decide +kernel
theorem dX11_weightOf_21 : decode cX11_weightOf 21 = .ok (.aload_n 1, 1) := by decide +kernel
theorem dX11_weightOf_22 : decode cX11_weightOf 22 = .ok (.getfield 318, 3) := by decide +kernel
theorem dX11_weightOf_25 : decode cX11_weightOf 25 = .ok (.iload_n 2, 1) := by decide +kernel
theorem dX11_weightOf_26 : decode cX11_weightOf 26 = .ok (.invokevirtual 324, 3) := by decide +kernel
theorem dX11_weightOf_29 : decode cX11_weightOf 29 = .ok (.istore 4, 2) := by decide +kernel
theorem dX11_weightOf_31 : decode cX11_weightOf 31 = .ok (.iload 4, 2) := by decide +kernel
theorem dX11_weightOf_33 : decode cX11_weightOf 33 = .ok (.iconst (-1), 1) := by decide +kernel
theorem dX11_weightOf_34 : decode cX11_weightOf 34 = .ok (.if_icmp .ne 7, 3) := by decide +kernel
theorem dX11_weightOf_37 : decode cX11_weightOf 37 = .ok (.lconst 0, 1) := by decide +kernel
theorem dX11_weightOf_38 : decode cX11_weightOf 38 = .ok (.goto 19, 3) := by decide +kernel
theorem dX11_weightOf_41 : decode cX11_weightOf 41 = .ok (.aload_n 1, 1) := by decide +kernel
theorem dX11_weightOf_42 : decode cX11_weightOf 42 = .ok (.getfield 321, 3) := by decide +kernel
theorem dX11_weightOf_45 : decode cX11_weightOf 45 = .ok (.aload_n 0, 1) := by decide +kernel
theorem dX11_weightOf_46 : decode cX11_weightOf 46 = .ok (.getfield 57, 3) := by decide +kernel
theorem dX11_weightOf_49 : decode cX11_weightOf 49 = .ok (.iload 4, 2) := by decide +kernel
theorem dX11_weightOf_51 : decode cX11_weightOf 51 = .ok (.iconst 2, 1) := by decide +kernel
theorem dX11_weightOf_52 : decode cX11_weightOf 52 = .ok (.invokevirtual 266, 3) := by decide +kernel
theorem dX11_weightOf_55 : decode cX11_weightOf 55 = .ok (.imul, 1) := by decide +kernel
theorem dX11_weightOf_56 : decode cX11_weightOf 56 = .ok (.i2l, 1) := by decide +kernel
theorem dX11_weightOf_57 : decode cX11_weightOf 57 = .ok (.lreturn, 1) := by decide +kernel
abbrev M_X11_weightOf : MI := (RX11, cX11_weightOf, 5, (some .long), ({ frames := 2, cells := 0, slots := 0, locals := 45 } : Room), 0, 0, false)
def f_X11_weightOf (h : AH) (N : Nat) (p0 : Nat) (p1 : Nat) (p2 : Int32) (p3 : Int32) : Option Int64 := if kd h p0 = 12 + 1 then (if p3 = 0 then some 1 else (if p3 = 1 then (xgi h p1 3 3).bind fun v3 => some (v3 : Int32).toInt64 else (xgr h p0 12 9).bind fun v4 => (xgi h p1 3 0).bind fun v5 => (f_X7_find h N v4 v5 p2).bind fun v6 => (if v6 = (-1) then some 0 else (xgi h p1 3 3).bind fun v8 => (xgr h p0 12 9).bind fun v9 => (f_X7_at h v9 v6 2).bind fun v10 => some ((v8 * v10) : Int32).toInt64))) else none
theorem g_X11_weightOf {h : AH} {N : Nat} {p0 : Nat} {p1 : Nat} {p2 : Int32} {p3 : Int32} {x : Int64} (e : f_X11_weightOf h N p0 p1 p2 p3 = some x) : kd h p0 = 12 + 1 := by
  unfold f_X11_weightOf at e
  by_cases hk : kd h p0 = 12 + 1
  · exact hk
  · rw [if_neg hk] at e
    cases e
theorem km_X11_weightOf : KM yX11_weightOf M_X11_weightOf 3 := ⟨in_tb 1086 (by decide +kernel) rfl, in_tb 1 (by decide +kernel) rfl, by decide +kernel, rfl, rfl⟩
theorem hm_X11_weightOf : M_X11_weightOf.2.2.2.2.2.1 = 0 ∧ M_X11_weightOf.2.2.2.2.2.2.1 = 0 := ⟨rfl, rfl⟩
section
variable {l : Launch} {g : GG}
end
set_option maxRecDepth 100000 in
set_option maxHeartbeats 4000000 in
theorem c_X11_weightOf (l : Launch) (g : GG) (h : AH) (N : Nat) (p0 : Nat) (p1 : Nat) (p2 : Int32) (p3 : Int32) : CN l g yX11_weightOf M_X11_weightOf false [.ref p0, .ref p1, .int p2, .int p3] h ((rPl h)) (f_X11_weightOf h N p0 p1 p2 p3) := by
  refine CN.of (by decide) rfl (fun hh => by first | rfl | cases hh) (Nat.le_of_ble_eq_true rfl) ?_
  unfold f_X11_weightOf
  refine a_gd (fun hkd => ?_)
  refine a_iload_n dX11_weightOf_0 rfl 3 rfl ?_
  refine a_if_ne 6 dX11_weightOf_1 (by decide) (fun c1 => ?_) (fun c1 => ?_)
  · refine a_lconst (v := 1) dX11_weightOf_4 (by decide) ?_
    exact a_lret dX11_weightOf_5 rfl rfl (by decide) (by decide)
  · refine a_iload_n dX11_weightOf_6 rfl 3 rfl ?_
    refine a_iconst (v := 1) dX11_weightOf_7 (by decide) ?_
    refine a_icmp_ne 17 dX11_weightOf_8 (by decide) (fun c2 => ?_) (fun c2 => ?_)
    · refine a_aload_n dX11_weightOf_11 rfl 1 rfl ?_
      refine a_geti kc3 3 dX11_weightOf_12 (by decide) rfl w_fieldLink_RainCover_321 (fun v3 => ?_)
      refine a_i2l dX11_weightOf_15 ?_
      exact a_lret dX11_weightOf_16 rfl rfl (by decide) (by decide)
    · refine a_aload_n dX11_weightOf_17 rfl 0 rfl ?_
      refine a_getr kc12 9 dX11_weightOf_18 (by decide) rfl w_fieldLink_RainCover_57 (fun v4 => ?_)
      refine a_aload_n dX11_weightOf_21 rfl 1 rfl ?_
      refine a_geti kc3 0 dX11_weightOf_22 (by decide) rfl w_fieldLink_RainCover_318 (fun v5 => ?_)
      refine a_iload_n dX11_weightOf_25 rfl 2 rfl ?_
      refine a_cV_Pi (r := v4) (ci := 8) (as := [.int v5, .int p2]) (st := []) dX11_weightOf_26 (c_X7_find l g h N v4 v5 p2) rfl km_X7_find (hm_X7_find) rfl (by decide) rfl (fun _ ee => g_X7_find ee) w_methodLink_RainCover_324 w_instanceMethod_RainCover_Table_find__II_I w_selects_RainCover_Table_RainCover_Table_find__II_I_RainCover_Table_find__II_I ⟨⟨by decide, by decide⟩, ⟨by decide, by decide⟩⟩ (Nat.le_of_ble_eq_true rfl) (fun v6 => ?_)
      refine a_istore (lc2 := [(4, .int v6), (0, .ref p0), (1, .ref p1), (2, .int p2), (3, .int p3)]) dX11_weightOf_29 (by decide) rfl ?_
      refine a_iload dX11_weightOf_31 0 rfl ?_
      refine a_iconst (v := (-1)) dX11_weightOf_33 (by decide) ?_
      refine a_icmp_ne 41 dX11_weightOf_34 (by decide) (fun c7 => ?_) (fun c7 => ?_)
      · refine a_lconst (v := 0) dX11_weightOf_37 (by decide) ?_
        refine a_goto 57 dX11_weightOf_38 (by decide) ?_
        exact a_lret dX11_weightOf_57 rfl rfl (by decide) (by decide)
      · refine a_aload_n dX11_weightOf_41 rfl 2 rfl ?_
        refine a_geti kc3 3 dX11_weightOf_42 (by decide) rfl w_fieldLink_RainCover_321 (fun v8 => ?_)
        refine a_aload_n dX11_weightOf_45 rfl 1 rfl ?_
        refine a_getr kc12 9 dX11_weightOf_46 (by decide) rfl w_fieldLink_RainCover_57 (fun v9 => ?_)
        refine a_iload dX11_weightOf_49 0 rfl ?_
        refine a_iconst (v := 2) dX11_weightOf_51 (by decide) ?_
        refine a_cV_Pi (r := v9) (ci := 8) (as := [.int v6, .int 2]) (st := [.int v8]) dX11_weightOf_52 (c_X7_at l g h v9 v6 2) rfl km_X7_at (hm_X7_at) rfl (by decide) rfl (fun _ ee => g_X7_at ee) w_methodLink_RainCover_266 w_instanceMethod_RainCover_Table_at__II_I w_selects_RainCover_Table_RainCover_Table_at__II_I_RainCover_Table_at__II_I ⟨⟨by decide, by decide⟩, ⟨by decide, by decide⟩⟩ (Nat.le_of_ble_eq_true rfl) (fun v10 => ?_)
        refine a_imul dX11_weightOf_55 ?_
        refine a_i2l dX11_weightOf_56 ?_
        exact a_lret dX11_weightOf_57 rfl rfl (by decide) (by decide)
theorem dX11_weightOfGroup_0 : decode cX11_weightOfGroup 0 = .ok (.lconst 0, 1) := by decide +kernel
theorem dX11_weightOfGroup_1 : decode cX11_weightOfGroup 1 = .ok (.lstore 4, 2) := by decide +kernel
theorem dX11_weightOfGroup_3 : decode cX11_weightOfGroup 3 = .ok (.iconst 0, 1) := by decide +kernel
theorem dX11_weightOfGroup_4 : decode cX11_weightOfGroup 4 = .ok (.istore 6, 2) := by decide +kernel
theorem dX11_weightOfGroup_6 : decode cX11_weightOfGroup 6 = .ok (.iload 6, 2) := by decide +kernel
theorem dX11_weightOfGroup_8 : decode cX11_weightOfGroup 8 = .ok (.aload_n 0, 1) := by decide +kernel
theorem dX11_weightOfGroup_9 : decode cX11_weightOfGroup 9 = .ok (.getfield 21, 3) := by decide +kernel
theorem dX11_weightOfGroup_12 : decode cX11_weightOfGroup 12 = .ok (.invokevirtual 104, 3) := by decide +kernel
theorem dX11_weightOfGroup_15 : decode cX11_weightOfGroup 15 = .ok (.if_icmp .ge 51, 3) := by decide +kernel
theorem dX11_weightOfGroup_18 : decode cX11_weightOfGroup 18 = .ok (.aload_n 0, 1) := by decide +kernel
theorem dX11_weightOfGroup_19 : decode cX11_weightOfGroup 19 = .ok (.getfield 21, 3) := by decide +kernel
theorem dX11_weightOfGroup_22 : decode cX11_weightOfGroup 22 = .ok (.iload 6, 2) := by decide +kernel
theorem dX11_weightOfGroup_24 : decode cX11_weightOfGroup 24 = .ok (.invokevirtual 124, 3) := by decide +kernel
theorem dX11_weightOfGroup_27 : decode cX11_weightOfGroup 27 = .ok (.checkcast 233, 3) := by decide +kernel
theorem dX11_weightOfGroup_30 : decode cX11_weightOfGroup 30 = .ok (.getfield 439, 3) := by decide +kernel
theorem dX11_weightOfGroup_33 : decode cX11_weightOfGroup 33 = .ok (.iload_n 1, 1) := by decide +kernel
theorem dX11_weightOfGroup_34 : decode cX11_weightOfGroup 34 = .ok (.if_icmp .ne 26, 3) := by decide +kernel
theorem dX11_weightOfGroup_37 : decode cX11_weightOfGroup 37 = .ok (.lload 4, 2) := by decide +kernel
theorem dX11_weightOfGroup_39 : decode cX11_weightOfGroup 39 = .ok (.aload_n 0, 1) := by decide +kernel
theorem dX11_weightOfGroup_40 : decode cX11_weightOfGroup 40 = .ok (.aload_n 0, 1) := by decide +kernel
theorem dX11_weightOfGroup_41 : decode cX11_weightOfGroup 41 = .ok (.getfield 21, 3) := by decide +kernel
theorem dX11_weightOfGroup_44 : decode cX11_weightOfGroup 44 = .ok (.iload 6, 2) := by decide +kernel
theorem dX11_weightOfGroup_46 : decode cX11_weightOfGroup 46 = .ok (.invokevirtual 124, 3) := by decide +kernel
theorem dX11_weightOfGroup_49 : decode cX11_weightOfGroup 49 = .ok (.checkcast 233, 3) := by decide +kernel
theorem dX11_weightOfGroup_52 : decode cX11_weightOfGroup 52 = .ok (.iload_n 2, 1) := by decide +kernel
theorem dX11_weightOfGroup_53 : decode cX11_weightOfGroup 53 = .ok (.iload_n 3, 1) := by decide +kernel
theorem dX11_weightOfGroup_54 : decode cX11_weightOfGroup 54 = .ok (.invokevirtual 456, 3) := by decide +kernel
theorem dX11_weightOfGroup_57 : decode cX11_weightOfGroup 57 = .ok (.ladd, 1) := by decide +kernel
theorem dX11_weightOfGroup_58 : decode cX11_weightOfGroup 58 = .ok (.lstore 4, 2) := by decide +kernel
theorem dX11_weightOfGroup_60 : decode cX11_weightOfGroup 60 = .ok (.iinc 6 1, 3) := by decide +kernel
theorem dX11_weightOfGroup_63 : decode cX11_weightOfGroup 63 = .ok (.goto (-57), 3) := by decide +kernel
theorem dX11_weightOfGroup_66 : decode cX11_weightOfGroup 66 = .ok (.lload 4, 2) := by decide +kernel
theorem dX11_weightOfGroup_68 : decode cX11_weightOfGroup 68 = .ok (.lreturn, 1) := by decide +kernel
abbrev M_X11_weightOfGroup : MI := (RX11, cX11_weightOfGroup, 7, (some .long), ({ frames := 3, cells := 0, slots := 0, locals := 69 } : Room), 0, 0, false)
def f_X11_weightOfGroup_b60 (h : AH) (N : Nat) (K6 : Nat → Int32 → Int32 → Int32 → Int64 → Int32 → Option Int64) (x0 : Nat) (x1 : Int32) (x2 : Int32) (x3 : Int32) (x4 : Int64) (x6 : Int32) : Option Int64 := K6 x0 x1 x2 x3 x4 (x6 + 1)
def f_X11_weightOfGroup_b6_body (h : AH) (N : Nat) (K6 : Nat → Int32 → Int32 → Int32 → Int64 → Int32 → Option Int64) (x0 : Nat) (x1 : Int32) (x2 : Int32) (x3 : Int32) (x4 : Int64) (x6 : Int32) : Option Int64 := (xgr h x0 12 2).bind fun v1 => (f_Jx4a65c_size_8abf5 h v1).bind fun v2 => (if v2 ≤ x6 then some x4 else (xgr h x0 12 2).bind fun v4 => (f_Jx4a65c_get_915e3 h v4 x6).bind fun v5 => (xcc h v5 3).bind fun _ => (xgi h v5 3 7).bind fun v6 => (if v6 = x1 then (xgr h x0 12 2).bind fun v8 => (f_Jx4a65c_get_915e3 h v8 x6).bind fun v9 => (xcc h v9 3).bind fun _ => (f_X11_weightOf h N x0 v9 x2 x3).bind fun v10 => f_X11_weightOfGroup_b60 h N K6 x0 x1 x2 x3 (x4 + v10) x6 else f_X11_weightOfGroup_b60 h N K6 x0 x1 x2 x3 x4 x6))
def f_X11_weightOfGroup_b6 (h : AH) (N : Nat) : Nat → Nat → Int32 → Int32 → Int32 → Int64 → Int32 → Option Int64
  | 0, _, _, _, _, _, _ => none
  | n + 1, x0, x1, x2, x3, x4, x6 => f_X11_weightOfGroup_b6_body h N  (f_X11_weightOfGroup_b6 h N  n) x0 x1 x2 x3 x4 x6
def f_X11_weightOfGroup (h : AH) (N : Nat) (p0 : Nat) (p1 : Int32) (p2 : Int32) (p3 : Int32) : Option Int64 := if kd h p0 = 12 + 1 then f_X11_weightOfGroup_b6 h N N p0 p1 p2 p3 0 0 else none
theorem g_X11_weightOfGroup {h : AH} {N : Nat} {p0 : Nat} {p1 : Int32} {p2 : Int32} {p3 : Int32} {x : Int64} (e : f_X11_weightOfGroup h N p0 p1 p2 p3 = some x) : kd h p0 = 12 + 1 := by
  unfold f_X11_weightOfGroup at e
  by_cases hk : kd h p0 = 12 + 1
  · exact hk
  · rw [if_neg hk] at e
    cases e
theorem km_X11_weightOfGroup : KM yX11_weightOfGroup M_X11_weightOfGroup 3 := ⟨in_tb 1082 (by decide +kernel) rfl, in_tb 1 (by decide +kernel) rfl, by decide +kernel, rfl, rfl⟩
theorem hm_X11_weightOfGroup : M_X11_weightOfGroup.2.2.2.2.2.1 = 0 ∧ M_X11_weightOfGroup.2.2.2.2.2.2.1 = 0 := ⟨rfl, rfl⟩
section
variable {l : Launch} {g : GG}
set_option maxRecDepth 100000 in
set_option maxHeartbeats 4000000 in
theorem t_X11_weightOfGroup_b60 (h : AH) (N : Nat) (K6 : Nat → Int32 → Int32 → Int32 → Int64 → Int32 → Option Int64) (hK6 : ∀ (z0 : Nat) (z1 : Int32) (z2 : Int32) (z3 : Int32) (z4 : Int64) (z5 : Int32), AO l g M_X11_weightOfGroup false h 6 [(0, .ref z0), (1, .int z1), (2, .int z2), (3, .int z3), (4, .long z4), (6, .int z5)] [] h 0 0 (rPl h) (K6 z0 z1 z2 z3 z4 z5)) (x0 : Nat) (x1 : Int32) (x2 : Int32) (x3 : Int32) (x4 : Int64) (x6 : Int32) : AO l g M_X11_weightOfGroup false h 60 [(0, .ref x0), (1, .int x1), (2, .int x2), (3, .int x3), (4, .long x4), (6, .int x6)] [] h 0 0 (rPl h) (f_X11_weightOfGroup_b60 h N K6 x0 x1 x2 x3 x4 x6) := by
  unfold f_X11_weightOfGroup_b60
  refine a_iinc (q := 5) (v := (x6 + 1)) (lc2 := [(6, .int (x6 + 1)), (0, .ref x0), (1, .int x1), (2, .int x2), (3, .int x3), (4, .long x4)]) dX11_weightOfGroup_60 rfl rfl (by decide) rfl ?_
  refine a_goto 6 dX11_weightOfGroup_63 (by decide) ?_
  refine a_pick (lc2 := [(0, .ref x0), (1, .int x1), (2, .int x2), (3, .int x3), (4, .long x4), (6, .int (x6 + 1))]) [1, 2, 3, 4, 5, 0] rfl ?_
  exact hK6 x0 x1 x2 x3 x4 (x6 + 1)
set_option maxRecDepth 100000 in
set_option maxHeartbeats 4000000 in
theorem t_X11_weightOfGroup_b6_body (h : AH) (N : Nat) (K6 : Nat → Int32 → Int32 → Int32 → Int64 → Int32 → Option Int64) (hK6 : ∀ (z0 : Nat) (z1 : Int32) (z2 : Int32) (z3 : Int32) (z4 : Int64) (z5 : Int32), AO l g M_X11_weightOfGroup false h 6 [(0, .ref z0), (1, .int z1), (2, .int z2), (3, .int z3), (4, .long z4), (6, .int z5)] [] h 0 0 (rPl h) (K6 z0 z1 z2 z3 z4 z5)) (x0 : Nat) (x1 : Int32) (x2 : Int32) (x3 : Int32) (x4 : Int64) (x6 : Int32) : AO l g M_X11_weightOfGroup false h 6 [(0, .ref x0), (1, .int x1), (2, .int x2), (3, .int x3), (4, .long x4), (6, .int x6)] [] h 0 0 (rPl h) (f_X11_weightOfGroup_b6_body h N K6 x0 x1 x2 x3 x4 x6) := by
  unfold f_X11_weightOfGroup_b6_body
  refine a_iload dX11_weightOfGroup_6 5 rfl ?_
  refine a_aload_n dX11_weightOfGroup_8 rfl 0 rfl ?_
  refine a_getr kc12 2 dX11_weightOfGroup_9 (by decide) rfl w_fieldLink_RainCover_21 (fun v1 => ?_)
  refine a_cV_Pi (r := v1) (ci := 0) (as := []) (st := [.int x6]) dX11_weightOfGroup_12 (c_Jx4a65c_size_8abf5 l g h v1) rfl km_Jx4a65c_size_8abf5 (hm_Jx4a65c_size_8abf5) rfl (by decide) rfl (fun _ ee => g_Jx4a65c_size_8abf5 ee) w_methodLink_RainCover_104 w_instanceMethod_java_util_ArrayList_size___I w_selects_java_util_ArrayList_java_util_ArrayList_size___I_java_util_ArrayList_size___I ⟨⟨by decide, by decide⟩, ⟨by decide, by decide⟩⟩ (Nat.le_of_ble_eq_true rfl) (fun v2 => ?_)
  refine a_icmp_ge 66 dX11_weightOfGroup_15 (by decide) (fun c3 => ?_) (fun c3 => ?_)
  · refine a_lload dX11_weightOfGroup_66 4 rfl ?_
    exact a_lret dX11_weightOfGroup_68 rfl rfl (by decide) (by decide)
  · refine a_aload_n dX11_weightOfGroup_18 rfl 0 rfl ?_
    refine a_getr kc12 2 dX11_weightOfGroup_19 (by decide) rfl w_fieldLink_RainCover_21 (fun v4 => ?_)
    refine a_iload dX11_weightOfGroup_22 5 rfl ?_
    refine a_cV_Pr (r := v4) (ci := 0) (as := [.int x6]) (st := []) dX11_weightOfGroup_24 (c_Jx4a65c_get_915e3 l g h v4 x6) rfl km_Jx4a65c_get_915e3 (hm_Jx4a65c_get_915e3) rfl (by decide) rfl (fun _ ee => g_Jx4a65c_get_915e3 ee) w_methodLink_RainCover_124 w_instanceMethod_java_util_ArrayList_get__I_Ljava_lang_Object_ w_selects_java_util_ArrayList_java_util_ArrayList_get__I_Ljava_lang_Object__java_util_ArrayList_get__I_Ljava_lang_Object_ ⟨⟨by decide, by decide⟩, ⟨by decide, by decide⟩⟩ (Nat.le_of_ble_eq_true rfl) (fun v5 => ?_)
    refine a_cast kc3 dX11_weightOfGroup_27 w_classLink_RainCover_233 ?_
    refine a_geti kc3 7 dX11_weightOfGroup_30 (by decide) rfl w_fieldLink_RainCover_439 (fun v6 => ?_)
    refine a_iload_n dX11_weightOfGroup_33 rfl 1 rfl ?_
    refine a_icmp_ne 60 dX11_weightOfGroup_34 (by decide) (fun c7 => ?_) (fun c7 => ?_)
    · refine a_lload dX11_weightOfGroup_37 4 rfl ?_
      refine a_aload_n dX11_weightOfGroup_39 rfl 0 rfl ?_
      refine a_aload_n dX11_weightOfGroup_40 rfl 0 rfl ?_
      refine a_getr kc12 2 dX11_weightOfGroup_41 (by decide) rfl w_fieldLink_RainCover_21 (fun v8 => ?_)
      refine a_iload dX11_weightOfGroup_44 5 rfl ?_
      refine a_cV_Pr (r := v8) (ci := 0) (as := [.int x6]) (st := [.ref x0, .long x4]) dX11_weightOfGroup_46 (c_Jx4a65c_get_915e3 l g h v8 x6) rfl km_Jx4a65c_get_915e3 (hm_Jx4a65c_get_915e3) rfl (by decide) rfl (fun _ ee => g_Jx4a65c_get_915e3 ee) w_methodLink_RainCover_124 w_instanceMethod_java_util_ArrayList_get__I_Ljava_lang_Object_ w_selects_java_util_ArrayList_java_util_ArrayList_get__I_Ljava_lang_Object__java_util_ArrayList_get__I_Ljava_lang_Object_ ⟨⟨by decide, by decide⟩, ⟨by decide, by decide⟩⟩ (Nat.le_of_ble_eq_true rfl) (fun v9 => ?_)
      refine a_cast kc3 dX11_weightOfGroup_49 w_classLink_RainCover_233 ?_
      refine a_iload_n dX11_weightOfGroup_52 rfl 2 rfl ?_
      refine a_iload_n dX11_weightOfGroup_53 rfl 3 rfl ?_
      refine a_cV_Pl (r := x0) (ci := 12) (as := [.ref v9, .int x2, .int x3]) (st := [.long x4]) dX11_weightOfGroup_54 (c_X11_weightOf l g h N x0 v9 x2 x3) rfl km_X11_weightOf (hm_X11_weightOf) rfl (by decide) rfl (fun _ ee => g_X11_weightOf ee) w_methodLink_RainCover_456 w_instanceMethod_RainCover_weightOf__LRainCover_Farm_II_J w_selects_RainCover_RainCover_weightOf__LRainCover_Farm_II_J_RainCover_weightOf__LRainCover_Farm_II_J ⟨⟨by decide, by decide⟩, ⟨by decide, by decide⟩⟩ (Nat.le_of_ble_eq_true rfl) (fun v10 => ?_)
      refine a_ladd dX11_weightOfGroup_57 ?_
      refine a_lstore (lc2 := [(4, .long (x4 + v10)), (0, .ref x0), (1, .int x1), (2, .int x2), (3, .int x3), (6, .int x6)]) dX11_weightOfGroup_58 (by decide) rfl ?_
      refine a_pick (lc2 := [(0, .ref x0), (1, .int x1), (2, .int x2), (3, .int x3), (4, .long (x4 + v10)), (6, .int x6)]) [1, 2, 3, 4, 0, 5] rfl ?_
      exact t_X11_weightOfGroup_b60 h N K6 hK6 x0 x1 x2 x3 (x4 + v10) x6
    · exact t_X11_weightOfGroup_b60 h N K6 hK6 x0 x1 x2 x3 x4 x6
set_option maxRecDepth 100000 in
set_option maxHeartbeats 4000000 in
theorem t_X11_weightOfGroup_b6 (h : AH) (N : Nat) : ∀ (n : Nat) (x0 : Nat) (x1 : Int32) (x2 : Int32) (x3 : Int32) (x4 : Int64) (x6 : Int32) , AO l g M_X11_weightOfGroup false h 6 [(0, .ref x0), (1, .int x1), (2, .int x2), (3, .int x3), (4, .long x4), (6, .int x6)] [] h 0 0 (rPl h) (f_X11_weightOfGroup_b6 h N  n x0 x1 x2 x3 x4 x6) := by
  intro n
  induction n with
  | zero => intro x0 x1 x2 x3 x4 x6; exact a_eq rfl a_none
  | succ n ih => intro x0 x1 x2 x3 x4 x6; exact a_eq rfl (t_X11_weightOfGroup_b6_body h N  (f_X11_weightOfGroup_b6 h N  n) ih x0 x1 x2 x3 x4 x6)
end
set_option maxRecDepth 100000 in
set_option maxHeartbeats 4000000 in
theorem c_X11_weightOfGroup (l : Launch) (g : GG) (h : AH) (N : Nat) (p0 : Nat) (p1 : Int32) (p2 : Int32) (p3 : Int32) : CN l g yX11_weightOfGroup M_X11_weightOfGroup false [.ref p0, .int p1, .int p2, .int p3] h ((rPl h)) (f_X11_weightOfGroup h N p0 p1 p2 p3) := by
  refine CN.of (by decide) rfl (fun hh => by first | rfl | cases hh) (Nat.le_of_ble_eq_true rfl) ?_
  unfold f_X11_weightOfGroup
  refine a_gd (fun hkd => ?_)
  refine a_lconst (v := 0) dX11_weightOfGroup_0 (by decide) ?_
  refine a_lstore (lc2 := [(4, .long 0), (0, .ref p0), (1, .int p1), (2, .int p2), (3, .int p3)]) dX11_weightOfGroup_1 (by decide) rfl ?_
  refine a_iconst (v := 0) dX11_weightOfGroup_3 (by decide) ?_
  refine a_istore (lc2 := [(6, .int 0), (4, .long 0), (0, .ref p0), (1, .int p1), (2, .int p2), (3, .int p3)]) dX11_weightOfGroup_4 (by decide) rfl ?_
  refine a_pick (lc2 := [(0, .ref p0), (1, .int p1), (2, .int p2), (3, .int p3), (4, .long 0), (6, .int 0)]) [2, 3, 4, 5, 1, 0] rfl ?_
  exact t_X11_weightOfGroup_b6 h N N p0 p1 p2 p3 0 0
theorem dX11_share_0 : decode cX11_share 0 = .ok (.aload_n 0, 1) := by decide +kernel
theorem dX11_share_1 : decode cX11_share 1 = .ok (.iload_n 1, 1) := by decide +kernel
theorem dX11_share_2 : decode cX11_share 2 = .ok (.invokevirtual 254, 3) := by decide +kernel
theorem dX11_share_5 : decode cX11_share 5 = .ok (.ifCond .eq 10, 3) := by decide +kernel
theorem dX11_share_8 : decode cX11_share 8 = .ok (.iload_n 2, 1) := by decide +kernel
theorem dX11_share_9 : decode cX11_share 9 = .ok (.invokestatic 100, 3) := by decide +kernel
theorem dX11_share_12 : decode cX11_share 12 = .ok (.ifCond .ne 6, 3) := by decide +kernel
theorem dX11_share_15 : decode cX11_share 15 = .ok (.bipush (-5), 2) := by decide +kernel
theorem dX11_share_17 : decode cX11_share 17 = .ok (.ireturn, 1) := by decide +kernel
theorem dX11_share_18 : decode cX11_share 18 = .ok (.aload_n 0, 1) := by decide +kernel
theorem dX11_share_19 : decode cX11_share 19 = .ok (.getfield 21, 3) := by decide +kernel
theorem dX11_share_22 : decode cX11_share 22 = .ok (.iload_n 1, 1) := by decide +kernel
theorem dX11_share_23 : decode cX11_share 23 = .ok (.invokevirtual 124, 3) := by decide +kernel
theorem dX11_share_26 : decode cX11_share 26 = .ok (.checkcast 233, 3) := by decide +kernel
theorem dX11_share_29 : decode cX11_share 29 = .ok (.astore_n 3, 1) := by decide +kernel
theorem dX11_share_30 : decode cX11_share 30 = .ok (.aload_n 3, 1) := by decide +kernel
theorem dX11_share_31 : decode cX11_share 31 = .ok (.getfield 439, 3) := by decide +kernel
theorem dX11_share_34 : decode cX11_share 34 = .ok (.iconst (-1), 1) := by decide +kernel
theorem dX11_share_35 : decode cX11_share 35 = .ok (.if_icmp .ne 14, 3) := by decide +kernel
theorem dX11_share_38 : decode cX11_share 38 = .ok (.aload_n 0, 1) := by decide +kernel
theorem dX11_share_39 : decode cX11_share 39 = .ok (.aload_n 3, 1) := by decide +kernel
theorem dX11_share_40 : decode cX11_share 40 = .ok (.iload_n 2, 1) := by decide +kernel
theorem dX11_share_41 : decode cX11_share 41 = .ok (.aload_n 0, 1) := by decide +kernel
theorem dX11_share_42 : decode cX11_share 42 = .ok (.invokevirtual 179, 3) := by decide +kernel
theorem dX11_share_45 : decode cX11_share 45 = .ok (.invokevirtual 292, 3) := by decide +kernel
theorem dX11_share_48 : decode cX11_share 48 = .ok (.ireturn, 1) := by decide +kernel
theorem dX11_share_49 : decode cX11_share 49 = .ok (.aload_n 0, 1) := by decide +kernel
theorem dX11_share_50 : decode cX11_share 50 = .ok (.aload_n 3, 1) := by decide +kernel
theorem dX11_share_51 : decode cX11_share 51 = .ok (.getfield 439, 3) := by decide +kernel
theorem dX11_share_54 : decode cX11_share 54 = .ok (.iload_n 2, 1) := by decide +kernel
theorem dX11_share_55 : decode cX11_share 55 = .ok (.invokevirtual 445, 3) := by decide +kernel
theorem dX11_share_58 : decode cX11_share 58 = .ok (.lstore 4, 2) := by decide +kernel
theorem dX11_share_60 : decode cX11_share 60 = .ok (.aload_n 0, 1) := by decide +kernel
theorem dX11_share_61 : decode cX11_share 61 = .ok (.aload_n 3, 1) := by decide +kernel
theorem dX11_share_62 : decode cX11_share 62 = .ok (.getfield 439, 3) := by decide +kernel
theorem dX11_share_65 : decode cX11_share 65 = .ok (.invokevirtual 449, 3) := by decide +kernel
theorem dX11_share_68 : decode cX11_share 68 = .ok (.istore 6, 2) := by decide +kernel
theorem dX11_share_70 : decode cX11_share 70 = .ok (.aload_n 0, 1) := by decide +kernel
theorem dX11_share_71 : decode cX11_share 71 = .ok (.aload_n 3, 1) := by decide +kernel
theorem dX11_share_72 : decode cX11_share 72 = .ok (.getfield 439, 3) := by decide +kernel
theorem dX11_share_75 : decode cX11_share 75 = .ok (.iload_n 2, 1) := by decide +kernel
theorem dX11_share_76 : decode cX11_share 76 = .ok (.iload 6, 2) := by decide +kernel
theorem dX11_share_78 : decode cX11_share 78 = .ok (.invokevirtual 452, 3) := by decide +kernel
theorem dX11_share_81 : decode cX11_share 81 = .ok (.lconst 0, 1) := by decide +kernel
theorem dX11_share_82 : decode cX11_share 82 = .ok (.lcmp, 1) := by decide +kernel
theorem dX11_share_83 : decode cX11_share 83 = .ok (.ifCond .ne 6, 3) := by decide +kernel
theorem dX11_share_86 : decode cX11_share 86 = .ok (.iconst 0, 1) := by decide +kernel
theorem dX11_share_87 : decode cX11_share 87 = .ok (.istore 6, 2) := by decide +kernel
theorem dX11_share_89 : decode cX11_share 89 = .ok (.aload_n 0, 1) := by decide +kernel
theorem dX11_share_90 : decode cX11_share 90 = .ok (.aload_n 3, 1) := by decide +kernel
theorem dX11_share_91 : decode cX11_share 91 = .ok (.getfield 439, 3) := by decide +kernel
theorem dX11_share_94 : decode cX11_share 94 = .ok (.iload_n 2, 1) := by decide +kernel
theorem dX11_share_95 : decode cX11_share 95 = .ok (.iload 6, 2) := by decide +kernel
theorem dX11_share_97 : decode cX11_share 97 = .ok (.invokevirtual 452, 3) := by decide +kernel
theorem dX11_share_100 : decode cX11_share 100 = .ok (.lstore 7, 2) := by decide +kernel
theorem dX11_share_102 : decode cX11_share 102 = .ok (.lload 7, 2) := by decide +kernel
theorem dX11_share_104 : decode cX11_share 104 = .ok (.lconst 0, 1) := by decide +kernel
theorem dX11_share_105 : decode cX11_share 105 = .ok (.lcmp, 1) := by decide +kernel
theorem dX11_share_106 : decode cX11_share 106 = .ok (.ifCond .ne 5, 3) := by decide +kernel
theorem dX11_share_109 : decode cX11_share 109 = .ok (.iconst 0, 1) := by decide +kernel
theorem dX11_share_110 : decode cX11_share 110 = .ok (.ireturn, 1) := by decide +kernel
theorem dX11_share_111 : decode cX11_share 111 = .ok (.lload 4, 2) := by decide +kernel
theorem dX11_share_113 : decode cX11_share 113 = .ok (.lstore 9, 2) := by decide +kernel
theorem dX11_share_115 : decode cX11_share 115 = .ok (.iconst 0, 1) := by decide +kernel
theorem dX11_share_116 : decode cX11_share 116 = .ok (.istore 11, 2) := by decide +kernel
theorem dX11_share_118 : decode cX11_share 118 = .ok (.iconst 0, 1) := by decide +kernel
theorem dX11_share_119 : decode cX11_share 119 = .ok (.istore 12, 2) := by decide +kernel
theorem dX11_share_121 : decode cX11_share 121 = .ok (.iload 12, 2) := by decide +kernel
theorem dX11_share_123 : decode cX11_share 123 = .ok (.aload_n 0, 1) := by decide +kernel
theorem dX11_share_124 : decode cX11_share 124 = .ok (.getfield 21, 3) := by decide +kernel
theorem dX11_share_127 : decode cX11_share 127 = .ok (.invokevirtual 104, 3) := by decide +kernel
theorem dX11_share_130 : decode cX11_share 130 = .ok (.if_icmp .ge 67, 3) := by decide +kernel
theorem dX11_share_133 : decode cX11_share 133 = .ok (.aload_n 0, 1) := by decide +kernel
theorem dX11_share_134 : decode cX11_share 134 = .ok (.getfield 21, 3) := by decide +kernel
theorem dX11_share_137 : decode cX11_share 137 = .ok (.iload 12, 2) := by decide +kernel
theorem dX11_share_139 : decode cX11_share 139 = .ok (.invokevirtual 124, 3) := by decide +kernel
theorem dX11_share_142 : decode cX11_share 142 = .ok (.checkcast 233, 3) := by decide +kernel
theorem dX11_share_145 : decode cX11_share 145 = .ok (.astore 13, 2) := by decide +kernel
theorem dX11_share_147 : decode cX11_share 147 = .ok (.aload 13, 2) := by decide +kernel
theorem dX11_share_149 : decode cX11_share 149 = .ok (.getfield 439, 3) := by decide +kernel
theorem dX11_share_152 : decode cX11_share 152 = .ok (.aload_n 3, 1) := by decide +kernel
theorem dX11_share_153 : decode cX11_share 153 = .ok (.getfield 439, 3) := by decide +kernel
theorem dX11_share_156 : decode cX11_share 156 = .ok (.if_icmp .eq 6, 3) := by decide +kernel
theorem dX11_share_159 : decode cX11_share 159 = .ok (.goto 32, 3) := by decide +kernel
theorem dX11_share_162 : decode cX11_share 162 = .ok (.lload 9, 2) := by decide +kernel
theorem dX11_share_164 : decode cX11_share 164 = .ok (.lload 4, 2) := by decide +kernel
theorem dX11_share_166 : decode cX11_share 166 = .ok (.aload_n 0, 1) := by decide +kernel
theorem dX11_share_167 : decode cX11_share 167 = .ok (.aload 13, 2) := by decide +kernel
theorem dX11_share_169 : decode cX11_share 169 = .ok (.iload_n 2, 1) := by decide +kernel
theorem dX11_share_170 : decode cX11_share 170 = .ok (.iload 6, 2) := by decide +kernel
theorem dX11_share_172 : decode cX11_share 172 = .ok (.invokevirtual 456, 3) := by decide +kernel
theorem dX11_share_175 : decode cX11_share 175 = .ok (.lmul, 1) := by decide +kernel
theorem dX11_share_176 : decode cX11_share 176 = .ok (.lload 7, 2) := by decide +kernel
theorem dX11_share_178 : decode cX11_share 178 = .ok (.ldiv, 1) := by decide +kernel
theorem dX11_share_179 : decode cX11_share 179 = .ok (.lsub, 1) := by decide +kernel
theorem dX11_share_180 : decode cX11_share 180 = .ok (.lstore 9, 2) := by decide +kernel
theorem dX11_share_182 : decode cX11_share 182 = .ok (.iload 12, 2) := by decide +kernel
theorem dX11_share_184 : decode cX11_share 184 = .ok (.iload_n 1, 1) := by decide +kernel
theorem dX11_share_185 : decode cX11_share 185 = .ok (.if_icmp .ge 6, 3) := by decide +kernel
theorem dX11_share_188 : decode cX11_share 188 = .ok (.iinc 11 1, 3) := by decide +kernel
theorem dX11_share_191 : decode cX11_share 191 = .ok (.iinc 12 1, 3) := by decide +kernel
theorem dX11_share_194 : decode cX11_share 194 = .ok (.goto (-73), 3) := by decide +kernel
theorem dX11_share_197 : decode cX11_share 197 = .ok (.lload 4, 2) := by decide +kernel
theorem dX11_share_199 : decode cX11_share 199 = .ok (.aload_n 0, 1) := by decide +kernel
theorem dX11_share_200 : decode cX11_share 200 = .ok (.aload_n 3, 1) := by decide +kernel
theorem dX11_share_201 : decode cX11_share 201 = .ok (.iload_n 2, 1) := by decide +kernel
theorem dX11_share_202 : decode cX11_share 202 = .ok (.iload 6, 2) := by decide +kernel
theorem dX11_share_204 : decode cX11_share 204 = .ok (.invokevirtual 456, 3) := by decide +kernel
theorem dX11_share_207 : decode cX11_share 207 = .ok (.lmul, 1) := by decide +kernel
theorem dX11_share_208 : decode cX11_share 208 = .ok (.lload 7, 2) := by decide +kernel
theorem dX11_share_210 : decode cX11_share 210 = .ok (.ldiv, 1) := by decide +kernel
theorem dX11_share_211 : decode cX11_share 211 = .ok (.l2i, 1) := by decide +kernel
theorem dX11_share_212 : decode cX11_share 212 = .ok (.iload 11, 2) := by decide +kernel
theorem dX11_share_214 : decode cX11_share 214 = .ok (.i2l, 1) := by decide +kernel
theorem dX11_share_215 : decode cX11_share 215 = .ok (.lload 9, 2) := by decide +kernel
theorem dX11_share_217 : decode cX11_share 217 = .ok (.lcmp, 1) := by decide +kernel
theorem dX11_share_218 : decode cX11_share 218 = .ok (.ifCond .ge 7, 3) := by decide +kernel
theorem dX11_share_221 : decode cX11_share 221 = .ok (.iconst 1, 1) := by decide +kernel
theorem dX11_share_222 : decode cX11_share 222 = .ok (.goto 4, 3) := by decide +kernel
theorem dX11_share_225 : decode cX11_share 225 = .ok (.iconst 0, 1) := by decide +kernel
theorem dX11_share_226 : decode cX11_share 226 = .ok (.iadd, 1) := by decide +kernel
theorem dX11_share_227 : decode cX11_share 227 = .ok (.ireturn, 1) := by decide +kernel
abbrev M_X11_share : MI := (RX11, cX11_share, 14, (some .int), ({ frames := 9, cells := 0, slots := 0, locals := 222 } : Room), 0, 0, false)
def f_X11_share_b191 (N : Nat) (K121 : AH → Nat → Int32 → Int32 → Nat → Int64 → Int32 → Int64 → Int64 → Int32 → Int32 → Option (Int32 × AH)) (h : AH) (x0 : Nat) (x1 : Int32) (x2 : Int32) (x3 : Nat) (x4 : Int64) (x6 : Int32) (x7 : Int64) (x9 : Int64) (x11 : Int32) (x12 : Int32) : Option (Int32 × AH) := K121 h x0 x1 x2 x3 x4 x6 x7 x9 x11 (x12 + 1)
def f_X11_share_b121_body (N : Nat) (K121 : AH → Nat → Int32 → Int32 → Nat → Int64 → Int32 → Int64 → Int64 → Int32 → Int32 → Option (Int32 × AH)) (h : AH) (x0 : Nat) (x1 : Int32) (x2 : Int32) (x3 : Nat) (x4 : Int64) (x6 : Int32) (x7 : Int64) (x9 : Int64) (x11 : Int32) (x12 : Int32) : Option (Int32 × AH) := (xgr h x0 12 2).bind fun v21 => (f_Jx4a65c_size_8abf5 h v21).bind fun v22 => (if v22 ≤ x12 then (f_X11_weightOf h N x0 x3 x2 x6).bind fun v24 => (if x7 = 0 then none else (if 0 ≤ (lg_cmp (x11 : Int32).toInt64 x9) then some (((((x4 * v24) / x7) : Int64).toInt32 + 0), h) else some (((((x4 * v24) / x7) : Int64).toInt32 + 1), h))) else (xgr h x0 12 2).bind fun v27 => (f_Jx4a65c_get_915e3 h v27 x12).bind fun v28 => (xcc h v28 3).bind fun _ => (xgi h v28 3 7).bind fun v29 => (xgi h x3 3 7).bind fun v30 => (if v29 = v30 then (f_X11_weightOf h N x0 v28 x2 x6).bind fun v32 => (if x7 = 0 then none else (if x1 ≤ x12 then f_X11_share_b191 N K121 h x0 x1 x2 x3 x4 x6 x7 (x9 - ((x4 * v32) / x7)) x11 x12 else f_X11_share_b191 N K121 h x0 x1 x2 x3 x4 x6 x7 (x9 - ((x4 * v32) / x7)) (x11 + 1) x12)) else f_X11_share_b191 N K121 h x0 x1 x2 x3 x4 x6 x7 x9 x11 x12))
def f_X11_share_b121 (N : Nat) : Nat → AH → Nat → Int32 → Int32 → Nat → Int64 → Int32 → Int64 → Int64 → Int32 → Int32 → Option (Int32 × AH)
  | 0, _, _, _, _, _, _, _, _, _, _, _ => none
  | n + 1, h, x0, x1, x2, x3, x4, x6, x7, x9, x11, x12 => f_X11_share_b121_body N  (f_X11_share_b121 N  n) h x0 x1 x2 x3 x4 x6 x7 x9 x11 x12
def f_X11_share_b89 (N : Nat) (h : AH) (x0 : Nat) (x1 : Int32) (x2 : Int32) (x3 : Nat) (x4 : Int64) (x6 : Int32) : Option (Int32 × AH) := (xgi h x3 3 7).bind fun v18 => (f_X11_weightOfGroup h N x0 v18 x2 x6).bind fun v19 => (if (lg_cmp v19 0) = 0 then some (0, h) else f_X11_share_b121 N N h x0 x1 x2 x3 x4 x6 v19 x4 0 0)
def f_X11_share (h0 : AH) (N : Nat) (p0 : Nat) (p1 : Int32) (p2 : Int32) : Option (Int32 × AH) := if kd h0 p0 = 12 + 1 then (f_X11_isFarm h0 p0 p1).bind fun v1 => (if v1 = 0 then some ((-5), h0) else (f_X11_isSeason h0 p2).bind fun v3 => (if v3 = 0 then some ((-5), h0) else (xgr h0 p0 12 2).bind fun v5 => (f_Jx4a65c_get_915e3 h0 v5 p1).bind fun v6 => (xcc h0 v6 3).bind fun _ => (xgi h0 v6 3 7).bind fun v7 => (if v7 = (-1) then (f_X11_now h0 p0).bind fun v9 => (f_X11_dueOf h0 N p0 v6 p2 v9).bind fun q10 => some (q10.1, q10.2) else (xgi h0 v6 3 7).bind fun v11 => (f_X11_dueOfGroup h0 N p0 v11 p2).bind fun q12 => (xgi q12.2 v6 3 7).bind fun v13 => (f_X11_ruleOf q12.2 N p0 v13).bind fun v14 => (xgi q12.2 v6 3 7).bind fun v15 => (f_X11_weightOfGroup q12.2 N p0 v15 p2 v14).bind fun v16 => (if (lg_cmp v16 0) = 0 then f_X11_share_b89 N q12.2 p0 p1 p2 v6 q12.1 0 else f_X11_share_b89 N q12.2 p0 p1 p2 v6 q12.1 v14)))) else none
theorem g_X11_share {h0 : AH} {N : Nat} {p0 : Nat} {p1 : Int32} {p2 : Int32} {x : (Int32 × AH)} (e : f_X11_share h0 N p0 p1 p2 = some x) : kd h0 p0 = 12 + 1 := by
  unfold f_X11_share at e
  by_cases hk : kd h0 p0 = 12 + 1
  · exact hk
  · rw [if_neg hk] at e
    cases e
theorem km_X11_share : KM yX11_share M_X11_share 2 := ⟨in_tb 1066 (by decide +kernel) rfl, in_tb 1 (by decide +kernel) rfl, by decide +kernel, rfl, rfl⟩
theorem hm_X11_share : M_X11_share.2.2.2.2.2.1 = 0 ∧ M_X11_share.2.2.2.2.2.2.1 = 0 := ⟨rfl, rfl⟩
section
variable {l : Launch} {g : GG}
set_option maxRecDepth 100000 in
set_option maxHeartbeats 4000000 in
theorem t_X11_share_b191 (h0 : AH) (N : Nat) (K121 : AH → Nat → Int32 → Int32 → Nat → Int64 → Int32 → Int64 → Int64 → Int32 → Int32 → Option (Int32 × AH)) (hK121 : ∀ (z : AH) (z0 : Nat) (z1 : Int32) (z2 : Int32) (z3 : Nat) (z4 : Int64) (z5 : Int32) (z6 : Int64) (z7 : Int64) (z8 : Int32) (z9 : Int32), AO l g M_X11_share false h0 121 [(0, .ref z0), (1, .int z1), (2, .int z2), (3, .ref z3), (4, .long z4), (6, .int z5), (7, .long z6), (9, .long z7), (11, .int z8), (12, .int z9)] [] z 0 0 rSi (K121 z z0 z1 z2 z3 z4 z5 z6 z7 z8 z9)) (h : AH) (x0 : Nat) (x1 : Int32) (x2 : Int32) (x3 : Nat) (x4 : Int64) (x6 : Int32) (x7 : Int64) (x9 : Int64) (x11 : Int32) (x12 : Int32) : AO l g M_X11_share false h0 191 [(0, .ref x0), (1, .int x1), (2, .int x2), (3, .ref x3), (4, .long x4), (6, .int x6), (7, .long x7), (9, .long x9), (11, .int x11), (12, .int x12)] [] h 0 0 rSi (f_X11_share_b191 N K121 h x0 x1 x2 x3 x4 x6 x7 x9 x11 x12) := by
  unfold f_X11_share_b191
  refine a_iinc (q := 9) (v := (x12 + 1)) (lc2 := [(12, .int (x12 + 1)), (0, .ref x0), (1, .int x1), (2, .int x2), (3, .ref x3), (4, .long x4), (6, .int x6), (7, .long x7), (9, .long x9), (11, .int x11)]) dX11_share_191 rfl rfl (by decide) rfl ?_
  refine a_goto 121 dX11_share_194 (by decide) ?_
  refine a_pick (lc2 := [(0, .ref x0), (1, .int x1), (2, .int x2), (3, .ref x3), (4, .long x4), (6, .int x6), (7, .long x7), (9, .long x9), (11, .int x11), (12, .int (x12 + 1))]) [1, 2, 3, 4, 5, 6, 7, 8, 9, 0] rfl ?_
  exact hK121 h x0 x1 x2 x3 x4 x6 x7 x9 x11 (x12 + 1)
set_option maxRecDepth 100000 in
set_option maxHeartbeats 4000000 in
theorem t_X11_share_b121_body (h0 : AH) (N : Nat) (K121 : AH → Nat → Int32 → Int32 → Nat → Int64 → Int32 → Int64 → Int64 → Int32 → Int32 → Option (Int32 × AH)) (hK121 : ∀ (z : AH) (z0 : Nat) (z1 : Int32) (z2 : Int32) (z3 : Nat) (z4 : Int64) (z5 : Int32) (z6 : Int64) (z7 : Int64) (z8 : Int32) (z9 : Int32), AO l g M_X11_share false h0 121 [(0, .ref z0), (1, .int z1), (2, .int z2), (3, .ref z3), (4, .long z4), (6, .int z5), (7, .long z6), (9, .long z7), (11, .int z8), (12, .int z9)] [] z 0 0 rSi (K121 z z0 z1 z2 z3 z4 z5 z6 z7 z8 z9)) (h : AH) (x0 : Nat) (x1 : Int32) (x2 : Int32) (x3 : Nat) (x4 : Int64) (x6 : Int32) (x7 : Int64) (x9 : Int64) (x11 : Int32) (x12 : Int32) : AO l g M_X11_share false h0 121 [(0, .ref x0), (1, .int x1), (2, .int x2), (3, .ref x3), (4, .long x4), (6, .int x6), (7, .long x7), (9, .long x9), (11, .int x11), (12, .int x12)] [] h 0 0 rSi (f_X11_share_b121_body N K121 h x0 x1 x2 x3 x4 x6 x7 x9 x11 x12) := by
  unfold f_X11_share_b121_body
  refine a_iload dX11_share_121 9 rfl ?_
  refine a_aload_n dX11_share_123 rfl 0 rfl ?_
  refine a_getr kc12 2 dX11_share_124 (by decide) rfl w_fieldLink_RainCover_21 (fun v21 => ?_)
  refine a_cV_Pi (r := v21) (ci := 0) (as := []) (st := [.int x12]) dX11_share_127 (c_Jx4a65c_size_8abf5 l g h v21) rfl km_Jx4a65c_size_8abf5 (hm_Jx4a65c_size_8abf5) rfl (by decide) rfl (fun _ ee => g_Jx4a65c_size_8abf5 ee) w_methodLink_RainCover_104 w_instanceMethod_java_util_ArrayList_size___I w_selects_java_util_ArrayList_java_util_ArrayList_size___I_java_util_ArrayList_size___I ⟨⟨by decide, by decide⟩, ⟨by decide, by decide⟩⟩ (Nat.le_of_ble_eq_true rfl) (fun v22 => ?_)
  refine a_icmp_ge 197 dX11_share_130 (by decide) (fun c23 => ?_) (fun c23 => ?_)
  · refine a_lload dX11_share_197 4 rfl ?_
    refine a_aload_n dX11_share_199 rfl 0 rfl ?_
    refine a_aload_n dX11_share_200 rfl 3 rfl ?_
    refine a_iload_n dX11_share_201 rfl 2 rfl ?_
    refine a_iload dX11_share_202 5 rfl ?_
    refine a_cV_Pl (r := x0) (ci := 12) (as := [.ref x3, .int x2, .int x6]) (st := [.long x4]) dX11_share_204 (c_X11_weightOf l g h N x0 x3 x2 x6) rfl km_X11_weightOf (hm_X11_weightOf) rfl (by decide) rfl (fun _ ee => g_X11_weightOf ee) w_methodLink_RainCover_456 w_instanceMethod_RainCover_weightOf__LRainCover_Farm_II_J w_selects_RainCover_RainCover_weightOf__LRainCover_Farm_II_J_RainCover_weightOf__LRainCover_Farm_II_J ⟨⟨by decide, by decide⟩, ⟨by decide, by decide⟩⟩ (Nat.le_of_ble_eq_true rfl) (fun v24 => ?_)
    refine a_lmul dX11_share_207 ?_
    refine a_lload dX11_share_208 6 rfl ?_
    refine a_ldiv dX11_share_210 (fun c25 => ?_)
    refine a_l2i dX11_share_211 ?_
    refine a_iload dX11_share_212 8 rfl ?_
    refine a_i2l dX11_share_214 ?_
    refine a_lload dX11_share_215 7 rfl ?_
    refine a_lcmp dX11_share_217 ?_
    refine a_if_ge 225 dX11_share_218 (by decide) (fun c26 => ?_) (fun c26 => ?_)
    · refine a_iconst (v := 0) dX11_share_225 (by decide) ?_
      refine a_iadd dX11_share_226 ?_
      exact a_iret dX11_share_227 rfl rfl (by decide) (by decide)
    · refine a_iconst (v := 1) dX11_share_221 (by decide) ?_
      refine a_goto 226 dX11_share_222 (by decide) ?_
      refine a_iadd dX11_share_226 ?_
      exact a_iret dX11_share_227 rfl rfl (by decide) (by decide)
  · refine a_aload_n dX11_share_133 rfl 0 rfl ?_
    refine a_getr kc12 2 dX11_share_134 (by decide) rfl w_fieldLink_RainCover_21 (fun v27 => ?_)
    refine a_iload dX11_share_137 9 rfl ?_
    refine a_cV_Pr (r := v27) (ci := 0) (as := [.int x12]) (st := []) dX11_share_139 (c_Jx4a65c_get_915e3 l g h v27 x12) rfl km_Jx4a65c_get_915e3 (hm_Jx4a65c_get_915e3) rfl (by decide) rfl (fun _ ee => g_Jx4a65c_get_915e3 ee) w_methodLink_RainCover_124 w_instanceMethod_java_util_ArrayList_get__I_Ljava_lang_Object_ w_selects_java_util_ArrayList_java_util_ArrayList_get__I_Ljava_lang_Object__java_util_ArrayList_get__I_Ljava_lang_Object_ ⟨⟨by decide, by decide⟩, ⟨by decide, by decide⟩⟩ (Nat.le_of_ble_eq_true rfl) (fun v28 => ?_)
    refine a_cast kc3 dX11_share_142 w_classLink_RainCover_233 ?_
    refine a_astore (lc2 := [(13, .ref v28), (0, .ref x0), (1, .int x1), (2, .int x2), (3, .ref x3), (4, .long x4), (6, .int x6), (7, .long x7), (9, .long x9), (11, .int x11), (12, .int x12)]) dX11_share_145 (by decide) rfl ?_
    refine a_aload dX11_share_147 0 rfl ?_
    refine a_geti kc3 7 dX11_share_149 (by decide) rfl w_fieldLink_RainCover_439 (fun v29 => ?_)
    refine a_aload_n dX11_share_152 rfl 4 rfl ?_
    refine a_geti kc3 7 dX11_share_153 (by decide) rfl w_fieldLink_RainCover_439 (fun v30 => ?_)
    refine a_icmp_eq 162 dX11_share_156 (by decide) (fun c31 => ?_) (fun c31 => ?_)
    · refine a_lload dX11_share_162 8 rfl ?_
      refine a_lload dX11_share_164 5 rfl ?_
      refine a_aload_n dX11_share_166 rfl 1 rfl ?_
      refine a_aload dX11_share_167 0 rfl ?_
      refine a_iload_n dX11_share_169 rfl 3 rfl ?_
      refine a_iload dX11_share_170 6 rfl ?_
      refine a_cV_Pl (r := x0) (ci := 12) (as := [.ref v28, .int x2, .int x6]) (st := [.long x4, .long x9]) dX11_share_172 (c_X11_weightOf l g h N x0 v28 x2 x6) rfl km_X11_weightOf (hm_X11_weightOf) rfl (by decide) rfl (fun _ ee => g_X11_weightOf ee) w_methodLink_RainCover_456 w_instanceMethod_RainCover_weightOf__LRainCover_Farm_II_J w_selects_RainCover_RainCover_weightOf__LRainCover_Farm_II_J_RainCover_weightOf__LRainCover_Farm_II_J ⟨⟨by decide, by decide⟩, ⟨by decide, by decide⟩⟩ (Nat.le_of_ble_eq_true rfl) (fun v32 => ?_)
      refine a_lmul dX11_share_175 ?_
      refine a_lload dX11_share_176 7 rfl ?_
      refine a_ldiv dX11_share_178 (fun c33 => ?_)
      refine a_lsub dX11_share_179 ?_
      refine a_lstore (lc2 := [(9, .long (x9 - ((x4 * v32) / x7))), (13, .ref v28), (0, .ref x0), (1, .int x1), (2, .int x2), (3, .ref x3), (4, .long x4), (6, .int x6), (7, .long x7), (11, .int x11), (12, .int x12)]) dX11_share_180 (by decide) rfl ?_
      refine a_iload dX11_share_182 10 rfl ?_
      refine a_iload_n dX11_share_184 rfl 3 rfl ?_
      refine a_icmp_ge 191 dX11_share_185 (by decide) (fun c34 => ?_) (fun c34 => ?_)
      · refine a_pick (lc2 := [(0, .ref x0), (1, .int x1), (2, .int x2), (3, .ref x3), (4, .long x4), (6, .int x6), (7, .long x7), (9, .long (x9 - ((x4 * v32) / x7))), (11, .int x11), (12, .int x12)]) [2, 3, 4, 5, 6, 7, 8, 0, 9, 10] rfl ?_
        exact t_X11_share_b191 h0 N K121 hK121 h x0 x1 x2 x3 x4 x6 x7 (x9 - ((x4 * v32) / x7)) x11 x12
      · refine a_iinc (q := 9) (v := (x11 + 1)) (lc2 := [(11, .int (x11 + 1)), (9, .long (x9 - ((x4 * v32) / x7))), (13, .ref v28), (0, .ref x0), (1, .int x1), (2, .int x2), (3, .ref x3), (4, .long x4), (6, .int x6), (7, .long x7), (12, .int x12)]) dX11_share_188 rfl rfl (by decide) rfl ?_
        refine a_pick (lc2 := [(0, .ref x0), (1, .int x1), (2, .int x2), (3, .ref x3), (4, .long x4), (6, .int x6), (7, .long x7), (9, .long (x9 - ((x4 * v32) / x7))), (11, .int (x11 + 1)), (12, .int x12)]) [3, 4, 5, 6, 7, 8, 9, 1, 0, 10] rfl ?_
        exact t_X11_share_b191 h0 N K121 hK121 h x0 x1 x2 x3 x4 x6 x7 (x9 - ((x4 * v32) / x7)) (x11 + 1) x12
    · refine a_goto 191 dX11_share_159 (by decide) ?_
      refine a_pick (lc2 := [(0, .ref x0), (1, .int x1), (2, .int x2), (3, .ref x3), (4, .long x4), (6, .int x6), (7, .long x7), (9, .long x9), (11, .int x11), (12, .int x12)]) [1, 2, 3, 4, 5, 6, 7, 8, 9, 10] rfl ?_
      exact t_X11_share_b191 h0 N K121 hK121 h x0 x1 x2 x3 x4 x6 x7 x9 x11 x12
set_option maxRecDepth 100000 in
set_option maxHeartbeats 4000000 in
theorem t_X11_share_b121 (h0 : AH) (N : Nat) : ∀ (n : Nat) (h : AH) (x0 : Nat) (x1 : Int32) (x2 : Int32) (x3 : Nat) (x4 : Int64) (x6 : Int32) (x7 : Int64) (x9 : Int64) (x11 : Int32) (x12 : Int32) , AO l g M_X11_share false h0 121 [(0, .ref x0), (1, .int x1), (2, .int x2), (3, .ref x3), (4, .long x4), (6, .int x6), (7, .long x7), (9, .long x9), (11, .int x11), (12, .int x12)] [] h 0 0 rSi (f_X11_share_b121 N  n h x0 x1 x2 x3 x4 x6 x7 x9 x11 x12) := by
  intro n
  induction n with
  | zero => intro h x0 x1 x2 x3 x4 x6 x7 x9 x11 x12; exact a_eq rfl a_none
  | succ n ih => intro h x0 x1 x2 x3 x4 x6 x7 x9 x11 x12; exact a_eq rfl (t_X11_share_b121_body h0 N  (f_X11_share_b121 N  n) ih h x0 x1 x2 x3 x4 x6 x7 x9 x11 x12)
set_option maxRecDepth 100000 in
set_option maxHeartbeats 4000000 in
theorem t_X11_share_b89 (h0 : AH) (N : Nat) (h : AH) (x0 : Nat) (x1 : Int32) (x2 : Int32) (x3 : Nat) (x4 : Int64) (x6 : Int32) : AO l g M_X11_share false h0 89 [(0, .ref x0), (1, .int x1), (2, .int x2), (3, .ref x3), (4, .long x4), (6, .int x6)] [] h 0 0 rSi (f_X11_share_b89 N  h x0 x1 x2 x3 x4 x6) := by
  unfold f_X11_share_b89
  refine a_aload_n dX11_share_89 rfl 0 rfl ?_
  refine a_aload_n dX11_share_90 rfl 3 rfl ?_
  refine a_geti kc3 7 dX11_share_91 (by decide) rfl w_fieldLink_RainCover_439 (fun v18 => ?_)
  refine a_iload_n dX11_share_94 rfl 2 rfl ?_
  refine a_iload dX11_share_95 5 rfl ?_
  refine a_cV_Pl (r := x0) (ci := 12) (as := [.int v18, .int x2, .int x6]) (st := []) dX11_share_97 (c_X11_weightOfGroup l g h N x0 v18 x2 x6) rfl km_X11_weightOfGroup (hm_X11_weightOfGroup) rfl (by decide) rfl (fun _ ee => g_X11_weightOfGroup ee) w_methodLink_RainCover_452 w_instanceMethod_RainCover_weightOfGroup__III_J w_selects_RainCover_RainCover_weightOfGroup__III_J_RainCover_weightOfGroup__III_J ⟨⟨by decide, by decide⟩, ⟨by decide, by decide⟩⟩ (Nat.le_of_ble_eq_true rfl) (fun v19 => ?_)
  refine a_lstore (lc2 := [(7, .long v19), (0, .ref x0), (1, .int x1), (2, .int x2), (3, .ref x3), (4, .long x4), (6, .int x6)]) dX11_share_100 (by decide) rfl ?_
  refine a_lload dX11_share_102 0 rfl ?_
  refine a_lconst (v := 0) dX11_share_104 (by decide) ?_
  refine a_lcmp dX11_share_105 ?_
  refine a_if_ne 111 dX11_share_106 (by decide) (fun c20 => ?_) (fun c20 => ?_)
  · refine a_iconst (v := 0) dX11_share_109 (by decide) ?_
    exact a_iret dX11_share_110 rfl rfl (by decide) (by decide)
  · refine a_lload dX11_share_111 5 rfl ?_
    refine a_lstore (lc2 := [(9, .long x4), (7, .long v19), (0, .ref x0), (1, .int x1), (2, .int x2), (3, .ref x3), (4, .long x4), (6, .int x6)]) dX11_share_113 (by decide) rfl ?_
    refine a_iconst (v := 0) dX11_share_115 (by decide) ?_
    refine a_istore (lc2 := [(11, .int 0), (9, .long x4), (7, .long v19), (0, .ref x0), (1, .int x1), (2, .int x2), (3, .ref x3), (4, .long x4), (6, .int x6)]) dX11_share_116 (by decide) rfl ?_
    refine a_iconst (v := 0) dX11_share_118 (by decide) ?_
    refine a_istore (lc2 := [(12, .int 0), (11, .int 0), (9, .long x4), (7, .long v19), (0, .ref x0), (1, .int x1), (2, .int x2), (3, .ref x3), (4, .long x4), (6, .int x6)]) dX11_share_119 (by decide) rfl ?_
    refine a_pick (lc2 := [(0, .ref x0), (1, .int x1), (2, .int x2), (3, .ref x3), (4, .long x4), (6, .int x6), (7, .long v19), (9, .long x4), (11, .int 0), (12, .int 0)]) [4, 5, 6, 7, 8, 9, 3, 2, 1, 0] rfl ?_
    exact t_X11_share_b121 h0 N N h x0 x1 x2 x3 x4 x6 v19 x4 0 0
end
set_option maxRecDepth 100000 in
set_option maxHeartbeats 4000000 in
theorem c_X11_share (l : Launch) (g : GG) (h0 : AH) (N : Nat) (p0 : Nat) (p1 : Int32) (p2 : Int32) : CN l g yX11_share M_X11_share false [.ref p0, .int p1, .int p2] h0 rSi (f_X11_share h0 N p0 p1 p2) := by
  refine CN.of (by decide) rfl (fun hh => by first | rfl | cases hh) (Nat.le_of_ble_eq_true rfl) ?_
  unfold f_X11_share
  refine a_gd (fun hkd => ?_)
  refine a_aload_n dX11_share_0 rfl 0 rfl ?_
  refine a_iload_n dX11_share_1 rfl 1 rfl ?_
  refine a_cV_Pi (r := p0) (ci := 12) (as := [.int p1]) (st := []) dX11_share_2 (c_X11_isFarm l g h0 p0 p1) rfl km_X11_isFarm (hm_X11_isFarm) rfl (by decide) rfl (fun _ ee => g_X11_isFarm ee) w_methodLink_RainCover_254 w_instanceMethod_RainCover_isFarm__I_Z w_selects_RainCover_RainCover_isFarm__I_Z_RainCover_isFarm__I_Z ⟨⟨by decide, by decide⟩, ⟨by decide, by decide⟩⟩ (Nat.le_of_ble_eq_true rfl) (fun v1 => ?_)
  refine a_if_eq 15 dX11_share_5 (by decide) (fun c2 => ?_) (fun c2 => ?_)
  · refine a_bipush (v := (-5)) dX11_share_15 (by decide) ?_
    exact a_iret dX11_share_17 rfl rfl (by decide) (by decide)
  · refine a_iload_n dX11_share_8 rfl 2 rfl ?_
    refine a_cS_Pi (as := [.int p2]) (st := []) dX11_share_9 (c_X11_isSeason l g h0 p2) rfl km_X11_isSeason (hm_X11_isSeason) w_methodLink_RainCover_100 w_static_RainCover_isSeason__I_Z ⟨⟨by decide, by decide⟩, ⟨by decide, by decide⟩⟩ (Nat.le_of_ble_eq_true rfl) (fun v3 => ?_)
    refine a_if_ne 18 dX11_share_12 (by decide) (fun c4 => ?_) (fun c4 => ?_)
    · refine a_bipush (v := (-5)) dX11_share_15 (by decide) ?_
      exact a_iret dX11_share_17 rfl rfl (by decide) (by decide)
    · refine a_aload_n dX11_share_18 rfl 0 rfl ?_
      refine a_getr kc12 2 dX11_share_19 (by decide) rfl w_fieldLink_RainCover_21 (fun v5 => ?_)
      refine a_iload_n dX11_share_22 rfl 1 rfl ?_
      refine a_cV_Pr (r := v5) (ci := 0) (as := [.int p1]) (st := []) dX11_share_23 (c_Jx4a65c_get_915e3 l g h0 v5 p1) rfl km_Jx4a65c_get_915e3 (hm_Jx4a65c_get_915e3) rfl (by decide) rfl (fun _ ee => g_Jx4a65c_get_915e3 ee) w_methodLink_RainCover_124 w_instanceMethod_java_util_ArrayList_get__I_Ljava_lang_Object_ w_selects_java_util_ArrayList_java_util_ArrayList_get__I_Ljava_lang_Object__java_util_ArrayList_get__I_Ljava_lang_Object_ ⟨⟨by decide, by decide⟩, ⟨by decide, by decide⟩⟩ (Nat.le_of_ble_eq_true rfl) (fun v6 => ?_)
      refine a_cast kc3 dX11_share_26 w_classLink_RainCover_233 ?_
      refine a_astore_n (lc2 := [(3, .ref v6), (0, .ref p0), (1, .int p1), (2, .int p2)]) dX11_share_29 rfl (by decide) rfl ?_
      refine a_aload_n dX11_share_30 rfl 0 rfl ?_
      refine a_geti kc3 7 dX11_share_31 (by decide) rfl w_fieldLink_RainCover_439 (fun v7 => ?_)
      refine a_iconst (v := (-1)) dX11_share_34 (by decide) ?_
      refine a_icmp_ne 49 dX11_share_35 (by decide) (fun c8 => ?_) (fun c8 => ?_)
      · refine a_aload_n dX11_share_38 rfl 1 rfl ?_
        refine a_aload_n dX11_share_39 rfl 0 rfl ?_
        refine a_iload_n dX11_share_40 rfl 3 rfl ?_
        refine a_aload_n dX11_share_41 rfl 1 rfl ?_
        refine a_cV_Pi (r := p0) (ci := 12) (as := []) (st := [.int p2, .ref v6, .ref p0]) dX11_share_42 (c_X11_now l g h0 p0) rfl km_X11_now (hm_X11_now) rfl (by decide) rfl (fun _ ee => g_X11_now ee) w_methodLink_RainCover_179 w_instanceMethod_RainCover_now___I w_selects_RainCover_RainCover_now___I_RainCover_now___I ⟨⟨by decide, by decide⟩, ⟨by decide, by decide⟩⟩ (Nat.le_of_ble_eq_true rfl) (fun v9 => ?_)
        refine a_cV_Si (r := p0) (ci := 12) (as := [.ref v6, .int p2, .int v9]) (st := []) dX11_share_45 (c_X11_dueOf l g h0 N p0 v6 p2 v9) rfl km_X11_dueOf (hm_X11_dueOf) rfl (by decide) rfl (fun _ ee => g_X11_dueOf ee) w_methodLink_RainCover_292 w_instanceMethod_RainCover_dueOf__LRainCover_Farm_II_I w_selects_RainCover_RainCover_dueOf__LRainCover_Farm_II_I_RainCover_dueOf__LRainCover_Farm_II_I ⟨⟨by decide, by decide⟩, ⟨by decide, by decide⟩⟩ (Nat.le_of_ble_eq_true rfl) (fun q10 => ?_)
        exact a_iret dX11_share_48 rfl rfl (by decide) (by decide)
      · refine a_aload_n dX11_share_49 rfl 1 rfl ?_
        refine a_aload_n dX11_share_50 rfl 0 rfl ?_
        refine a_geti kc3 7 dX11_share_51 (by decide) rfl w_fieldLink_RainCover_439 (fun v11 => ?_)
        refine a_iload_n dX11_share_54 rfl 3 rfl ?_
        refine a_cV_Sl (r := p0) (ci := 12) (as := [.int v11, .int p2]) (st := []) dX11_share_55 (c_X11_dueOfGroup l g h0 N p0 v11 p2) rfl km_X11_dueOfGroup (hm_X11_dueOfGroup) rfl (by decide) rfl (fun _ ee => g_X11_dueOfGroup ee) w_methodLink_RainCover_445 w_instanceMethod_RainCover_dueOfGroup__II_J w_selects_RainCover_RainCover_dueOfGroup__II_J_RainCover_dueOfGroup__II_J ⟨⟨by decide, by decide⟩, ⟨by decide, by decide⟩⟩ (Nat.le_of_ble_eq_true rfl) (fun q12 => ?_)
        refine a_lstore (lc2 := [(4, .long q12.1), (3, .ref v6), (0, .ref p0), (1, .int p1), (2, .int p2)]) dX11_share_58 (by decide) rfl ?_
        refine a_aload_n dX11_share_60 rfl 2 rfl ?_
        refine a_aload_n dX11_share_61 rfl 1 rfl ?_
        refine a_geti kc3 7 dX11_share_62 (by decide) rfl w_fieldLink_RainCover_439 (fun v13 => ?_)
        refine a_cV_Pi (r := p0) (ci := 12) (as := [.int v13]) (st := []) dX11_share_65 (c_X11_ruleOf l g q12.2 N p0 v13) rfl km_X11_ruleOf (hm_X11_ruleOf) rfl (by decide) rfl (fun _ ee => g_X11_ruleOf ee) w_methodLink_RainCover_449 w_instanceMethod_RainCover_ruleOf__I_I w_selects_RainCover_RainCover_ruleOf__I_I_RainCover_ruleOf__I_I ⟨⟨by decide, by decide⟩, ⟨by decide, by decide⟩⟩ (Nat.le_of_ble_eq_true rfl) (fun v14 => ?_)
        refine a_istore (lc2 := [(6, .int v14), (4, .long q12.1), (3, .ref v6), (0, .ref p0), (1, .int p1), (2, .int p2)]) dX11_share_68 (by decide) rfl ?_
        refine a_aload_n dX11_share_70 rfl 3 rfl ?_
        refine a_aload_n dX11_share_71 rfl 2 rfl ?_
        refine a_geti kc3 7 dX11_share_72 (by decide) rfl w_fieldLink_RainCover_439 (fun v15 => ?_)
        refine a_iload_n dX11_share_75 rfl 5 rfl ?_
        refine a_iload dX11_share_76 0 rfl ?_
        refine a_cV_Pl (r := p0) (ci := 12) (as := [.int v15, .int p2, .int v14]) (st := []) dX11_share_78 (c_X11_weightOfGroup l g q12.2 N p0 v15 p2 v14) rfl km_X11_weightOfGroup (hm_X11_weightOfGroup) rfl (by decide) rfl (fun _ ee => g_X11_weightOfGroup ee) w_methodLink_RainCover_452 w_instanceMethod_RainCover_weightOfGroup__III_J w_selects_RainCover_RainCover_weightOfGroup__III_J_RainCover_weightOfGroup__III_J ⟨⟨by decide, by decide⟩, ⟨by decide, by decide⟩⟩ (Nat.le_of_ble_eq_true rfl) (fun v16 => ?_)
        refine a_lconst (v := 0) dX11_share_81 (by decide) ?_
        refine a_lcmp dX11_share_82 ?_
        refine a_if_ne 89 dX11_share_83 (by decide) (fun c17 => ?_) (fun c17 => ?_)
        · refine a_iconst (v := 0) dX11_share_86 (by decide) ?_
          refine a_istore (lc2 := [(6, .int 0), (4, .long q12.1), (3, .ref v6), (0, .ref p0), (1, .int p1), (2, .int p2)]) dX11_share_87 (by decide) rfl ?_
          refine a_pick (lc2 := [(0, .ref p0), (1, .int p1), (2, .int p2), (3, .ref v6), (4, .long q12.1), (6, .int 0)]) [3, 4, 5, 2, 1, 0] rfl ?_
          exact t_X11_share_b89 h0 N q12.2 p0 p1 p2 v6 q12.1 0
        · refine a_pick (lc2 := [(0, .ref p0), (1, .int p1), (2, .int p2), (3, .ref v6), (4, .long q12.1), (6, .int v14)]) [3, 4, 5, 2, 1, 0] rfl ?_
          exact t_X11_share_b89 h0 N q12.2 p0 p1 p2 v6 q12.1 v14
