theorem dX11_dueOf_0 : decode cX11_dueOf 0 = .ok (.aload_n 0, 1) := by decide +kernel
theorem dX11_dueOf_1 : decode cX11_dueOf 1 = .ok (.aload_n 1, 1) := by decide +kernel
theorem dX11_dueOf_2 : decode cX11_dueOf 2 = .ok (.getfield 318, 3) := by decide +kernel
theorem dX11_dueOf_5 : decode cX11_dueOf 5 = .ok (.iload_n 2, 1) := by decide +kernel
theorem dX11_dueOf_6 : decode cX11_dueOf 6 = .ok (.invokevirtual 276, 3) := by decide +kernel
theorem dX11_dueOf_9 : decode cX11_dueOf 9 = .ok (.istore 4, 2) := by decide +kernel
theorem dX11_dueOf_11 : decode cX11_dueOf 11 = .ok (.iload 4, 2) := by decide +kernel
theorem dX11_dueOf_13 : decode cX11_dueOf 13 = .ok (.iconst (-1), 1) := by decide +kernel
theorem dX11_dueOf_14 : decode cX11_dueOf 14 = .ok (.if_icmp .ne 7, 3) := by decide +kernel
theorem dX11_dueOf_17 : decode cX11_dueOf 17 = .ok (.iconst 0, 1) := by decide +kernel
theorem dX11_dueOf_18 : decode cX11_dueOf 18 = .ok (.goto 17, 3) := by decide +kernel
theorem dX11_dueOf_21 : decode cX11_dueOf 21 = .ok (.aload_n 1, 1) := by decide +kernel
theorem dX11_dueOf_22 : decode cX11_dueOf 22 = .ok (.getfield 321, 3) := by decide +kernel
theorem dX11_dueOf_25 : decode cX11_dueOf 25 = .ok (.aload_n 0, 1) := by decide +kernel
theorem dX11_dueOf_26 : decode cX11_dueOf 26 = .ok (.aload_n 1, 1) := by decide +kernel
theorem dX11_dueOf_27 : decode cX11_dueOf 27 = .ok (.iload_n 2, 1) := by decide +kernel
theorem dX11_dueOf_28 : decode cX11_dueOf 28 = .ok (.iload 4, 2) := by decide +kernel
theorem dX11_dueOf_30 : decode cX11_dueOf 30 = .ok (.iload_n 3, 1) := by decide +kernel
theorem dX11_dueOf_31 : decode cX11_dueOf 31 = .ok (.invokevirtual 282, 3) := by decide +kernel
theorem dX11_dueOf_34 : decode cX11_dueOf 34 = .ok (.imul, 1) := by decide +kernel
theorem dX11_dueOf_35 : decode cX11_dueOf 35 = .ok (.ireturn, 1) := by decide +kernel
abbrev M_X11_dueOf : MI := (RX11, cX11_dueOf, 5, (some .int), ({ frames := 7, cells := 0, slots := 0, locals := 173 } : Room), 0, 0, false)
def f_X11_dueOf (h0 : AH) (N : Nat) (p0 : Nat) (p1 : Nat) (p2 : Int32) (p3 : Int32) : Option (Int32 × AH) := if kd h0 p0 = 12 + 1 then (xgi h0 p1 3 0).bind fun v1 => (f_X11_termOf h0 N p0 v1 p2).bind fun v2 => (if v2 = (-1) then some (0, h0) else (xgi h0 p1 3 3).bind fun v4 => (f_X11_payOf h0 N p0 p1 p2 v2 p3).bind fun q5 => some ((v4 * q5.1), q5.2)) else none
theorem g_X11_dueOf {h0 : AH} {N : Nat} {p0 : Nat} {p1 : Nat} {p2 : Int32} {p3 : Int32} {x : (Int32 × AH)} (e : f_X11_dueOf h0 N p0 p1 p2 p3 = some x) : kd h0 p0 = 12 + 1 := by
  unfold f_X11_dueOf at e
  by_cases hk : kd h0 p0 = 12 + 1
  · exact hk
  · rw [if_neg hk] at e
    cases e
theorem km_X11_dueOf : KM yX11_dueOf M_X11_dueOf 3 := ⟨in_tb 820 (by decide +kernel) rfl, in_tb 1 (by decide +kernel) rfl, by decide +kernel, rfl, rfl⟩
theorem hm_X11_dueOf : M_X11_dueOf.2.2.2.2.2.1 = 0 ∧ M_X11_dueOf.2.2.2.2.2.2.1 = 0 := ⟨rfl, rfl⟩
section
variable {l : Launch} {g : GG}
end
set_option maxRecDepth 100000 in
set_option maxHeartbeats 4000000 in
theorem c_X11_dueOf (l : Launch) (g : GG) (h0 : AH) (N : Nat) (p0 : Nat) (p1 : Nat) (p2 : Int32) (p3 : Int32) : CN l g yX11_dueOf M_X11_dueOf false [.ref p0, .ref p1, .int p2, .int p3] h0 rSi (f_X11_dueOf h0 N p0 p1 p2 p3) := by
  refine CN.of (by decide) rfl (fun hh => by first | rfl | cases hh) (Nat.le_of_ble_eq_true rfl) ?_
  unfold f_X11_dueOf
  refine a_gd (fun hkd => ?_)
  refine a_aload_n dX11_dueOf_0 rfl 0 rfl ?_
  refine a_aload_n dX11_dueOf_1 rfl 1 rfl ?_
  refine a_geti kc3 0 dX11_dueOf_2 (by decide) rfl w_fieldLink_RainCover_318 (fun v1 => ?_)
  refine a_iload_n dX11_dueOf_5 rfl 2 rfl ?_
  refine a_cV_Pi (r := p0) (ci := 12) (as := [.int v1, .int p2]) (st := []) dX11_dueOf_6 (c_X11_termOf l g h0 N p0 v1 p2) rfl km_X11_termOf (hm_X11_termOf) rfl (by decide) rfl (fun _ ee => g_X11_termOf ee) w_methodLink_RainCover_276 w_instanceMethod_RainCover_termOf__II_I w_selects_RainCover_RainCover_termOf__II_I_RainCover_termOf__II_I ⟨⟨by decide, by decide⟩, ⟨by decide, by decide⟩⟩ (Nat.le_of_ble_eq_true rfl) (fun v2 => ?_)
  refine a_istore (lc2 := [(4, .int v2), (0, .ref p0), (1, .ref p1), (2, .int p2), (3, .int p3)]) dX11_dueOf_9 (by decide) rfl ?_
  refine a_iload dX11_dueOf_11 0 rfl ?_
  refine a_iconst (v := (-1)) dX11_dueOf_13 (by decide) ?_
  refine a_icmp_ne 21 dX11_dueOf_14 (by decide) (fun c3 => ?_) (fun c3 => ?_)
  · refine a_iconst (v := 0) dX11_dueOf_17 (by decide) ?_
    refine a_goto 35 dX11_dueOf_18 (by decide) ?_
    exact a_iret dX11_dueOf_35 rfl rfl (by decide) (by decide)
  · refine a_aload_n dX11_dueOf_21 rfl 2 rfl ?_
    refine a_geti kc3 3 dX11_dueOf_22 (by decide) rfl w_fieldLink_RainCover_321 (fun v4 => ?_)
    refine a_aload_n dX11_dueOf_25 rfl 1 rfl ?_
    refine a_aload_n dX11_dueOf_26 rfl 2 rfl ?_
    refine a_iload_n dX11_dueOf_27 rfl 3 rfl ?_
    refine a_iload dX11_dueOf_28 0 rfl ?_
    refine a_iload_n dX11_dueOf_30 rfl 4 rfl ?_
    refine a_cV_Si (r := p0) (ci := 12) (as := [.ref p1, .int p2, .int v2, .int p3]) (st := [.int v4]) dX11_dueOf_31 (c_X11_payOf l g h0 N p0 p1 p2 v2 p3) rfl km_X11_payOf (hm_X11_payOf) rfl (by decide) rfl (fun _ ee => g_X11_payOf ee) w_methodLink_RainCover_282 w_instanceMethod_RainCover_payOf__LRainCover_Farm_III_I w_selects_RainCover_RainCover_payOf__LRainCover_Farm_III_I_RainCover_payOf__LRainCover_Farm_III_I ⟨⟨by decide, by decide⟩, ⟨by decide, by decide⟩⟩ (Nat.le_of_ble_eq_true rfl) (fun q5 => ?_)
    refine a_imul dX11_dueOf_34 ?_
    exact a_iret dX11_dueOf_35 rfl rfl (by decide) (by decide)
theorem dX11_due_0 : decode cX11_due 0 = .ok (.aload_n 0, 1) := by decide +kernel
theorem dX11_due_1 : decode cX11_due 1 = .ok (.iload_n 1, 1) := by decide +kernel
theorem dX11_due_2 : decode cX11_due 2 = .ok (.invokevirtual 254, 3) := by decide +kernel
theorem dX11_due_5 : decode cX11_due 5 = .ok (.ifCond .eq 14, 3) := by decide +kernel
theorem dX11_due_8 : decode cX11_due 8 = .ok (.iload_n 2, 1) := by decide +kernel
theorem dX11_due_9 : decode cX11_due 9 = .ok (.invokestatic 100, 3) := by decide +kernel
theorem dX11_due_12 : decode cX11_due 12 = .ok (.ifCond .eq 7, 3) := by decide +kernel
theorem dX11_due_15 : decode cX11_due 15 = .ok (.iload_n 3, 1) := by decide +kernel
theorem dX11_due_16 : decode cX11_due 16 = .ok (.ifCond .ge 6, 3) := by decide +kernel
theorem dX11_due_19 : decode cX11_due 19 = .ok (.bipush (-5), 2) := by decide +kernel
theorem dX11_due_21 : decode cX11_due 21 = .ok (.ireturn, 1) := by decide +kernel
theorem dX11_due_22 : decode cX11_due 22 = .ok (.aload_n 0, 1) := by decide +kernel
theorem dX11_due_23 : decode cX11_due 23 = .ok (.aload_n 0, 1) := by decide +kernel
theorem dX11_due_24 : decode cX11_due 24 = .ok (.getfield 21, 3) := by decide +kernel
theorem dX11_due_27 : decode cX11_due 27 = .ok (.iload_n 1, 1) := by decide +kernel
theorem dX11_due_28 : decode cX11_due 28 = .ok (.invokevirtual 124, 3) := by decide +kernel
theorem dX11_due_31 : decode cX11_due 31 = .ok (.checkcast 233, 3) := by decide +kernel
theorem dX11_due_34 : decode cX11_due 34 = .ok (.iload_n 2, 1) := by decide +kernel
theorem dX11_due_35 : decode cX11_due 35 = .ok (.iload_n 3, 1) := by decide +kernel
theorem dX11_due_36 : decode cX11_due 36 = .ok (.invokevirtual 292, 3) := by decide +kernel
theorem dX11_due_39 : decode cX11_due 39 = .ok (.ireturn, 1) := by decide +kernel
abbrev M_X11_due : MI := (RX11, cX11_due, 4, (some .int), ({ frames := 8, cells := 0, slots := 0, locals := 197 } : Room), 0, 0, false)
def f_X11_due (h0 : AH) (N : Nat) (p0 : Nat) (p1 : Int32) (p2 : Int32) (p3 : Int32) : Option (Int32 × AH) := if kd h0 p0 = 12 + 1 then (f_X11_isFarm h0 p0 p1).bind fun v1 => (if v1 = 0 then some ((-5), h0) else (f_X11_isSeason h0 p2).bind fun v3 => (if v3 = 0 then some ((-5), h0) else (if 0 ≤ p3 then (xgr h0 p0 12 2).bind fun v6 => (f_Jx4a65c_get_915e3 h0 v6 p1).bind fun v7 => (xcc h0 v7 3).bind fun _ => (f_X11_dueOf h0 N p0 v7 p2 p3).bind fun q8 => some (q8.1, q8.2) else some ((-5), h0)))) else none
theorem g_X11_due {h0 : AH} {N : Nat} {p0 : Nat} {p1 : Int32} {p2 : Int32} {p3 : Int32} {x : (Int32 × AH)} (e : f_X11_due h0 N p0 p1 p2 p3 = some x) : kd h0 p0 = 12 + 1 := by
  unfold f_X11_due at e
  by_cases hk : kd h0 p0 = 12 + 1
  · exact hk
  · rw [if_neg hk] at e
    cases e
theorem km_X11_due : KM yX11_due M_X11_due 3 := ⟨in_tb 816 (by decide +kernel) rfl, in_tb 1 (by decide +kernel) rfl, by decide +kernel, rfl, rfl⟩
theorem hm_X11_due : M_X11_due.2.2.2.2.2.1 = 0 ∧ M_X11_due.2.2.2.2.2.2.1 = 0 := ⟨rfl, rfl⟩
section
variable {l : Launch} {g : GG}
end
set_option maxRecDepth 100000 in
set_option maxHeartbeats 4000000 in
theorem c_X11_due (l : Launch) (g : GG) (h0 : AH) (N : Nat) (p0 : Nat) (p1 : Int32) (p2 : Int32) (p3 : Int32) : CN l g yX11_due M_X11_due false [.ref p0, .int p1, .int p2, .int p3] h0 rSi (f_X11_due h0 N p0 p1 p2 p3) := by
  refine CN.of (by decide) rfl (fun hh => by first | rfl | cases hh) (Nat.le_of_ble_eq_true rfl) ?_
  unfold f_X11_due
  refine a_gd (fun hkd => ?_)
  refine a_aload_n dX11_due_0 rfl 0 rfl ?_
  refine a_iload_n dX11_due_1 rfl 1 rfl ?_
  refine a_cV_Pi (r := p0) (ci := 12) (as := [.int p1]) (st := []) dX11_due_2 (c_X11_isFarm l g h0 p0 p1) rfl km_X11_isFarm (hm_X11_isFarm) rfl (by decide) rfl (fun _ ee => g_X11_isFarm ee) w_methodLink_RainCover_254 w_instanceMethod_RainCover_isFarm__I_Z w_selects_RainCover_RainCover_isFarm__I_Z_RainCover_isFarm__I_Z ⟨⟨by decide, by decide⟩, ⟨by decide, by decide⟩⟩ (Nat.le_of_ble_eq_true rfl) (fun v1 => ?_)
  refine a_if_eq 19 dX11_due_5 (by decide) (fun c2 => ?_) (fun c2 => ?_)
  · refine a_bipush (v := (-5)) dX11_due_19 (by decide) ?_
    exact a_iret dX11_due_21 rfl rfl (by decide) (by decide)
  · refine a_iload_n dX11_due_8 rfl 2 rfl ?_
    refine a_cS_Pi (as := [.int p2]) (st := []) dX11_due_9 (c_X11_isSeason l g h0 p2) rfl km_X11_isSeason (hm_X11_isSeason) w_methodLink_RainCover_100 w_static_RainCover_isSeason__I_Z ⟨⟨by decide, by decide⟩, ⟨by decide, by decide⟩⟩ (Nat.le_of_ble_eq_true rfl) (fun v3 => ?_)
    refine a_if_eq 19 dX11_due_12 (by decide) (fun c4 => ?_) (fun c4 => ?_)
    · refine a_bipush (v := (-5)) dX11_due_19 (by decide) ?_
      exact a_iret dX11_due_21 rfl rfl (by decide) (by decide)
    · refine a_iload_n dX11_due_15 rfl 3 rfl ?_
      refine a_if_ge 22 dX11_due_16 (by decide) (fun c5 => ?_) (fun c5 => ?_)
      · refine a_aload_n dX11_due_22 rfl 0 rfl ?_
        refine a_aload_n dX11_due_23 rfl 0 rfl ?_
        refine a_getr kc12 2 dX11_due_24 (by decide) rfl w_fieldLink_RainCover_21 (fun v6 => ?_)
        refine a_iload_n dX11_due_27 rfl 1 rfl ?_
        refine a_cV_Pr (r := v6) (ci := 0) (as := [.int p1]) (st := [.ref p0]) dX11_due_28 (c_Jx4a65c_get_915e3 l g h0 v6 p1) rfl km_Jx4a65c_get_915e3 (hm_Jx4a65c_get_915e3) rfl (by decide) rfl (fun _ ee => g_Jx4a65c_get_915e3 ee) w_methodLink_RainCover_124 w_instanceMethod_java_util_ArrayList_get__I_Ljava_lang_Object_ w_selects_java_util_ArrayList_java_util_ArrayList_get__I_Ljava_lang_Object__java_util_ArrayList_get__I_Ljava_lang_Object_ ⟨⟨by decide, by decide⟩, ⟨by decide, by decide⟩⟩ (Nat.le_of_ble_eq_true rfl) (fun v7 => ?_)
        refine a_cast kc3 dX11_due_31 w_classLink_RainCover_233 ?_
        refine a_iload_n dX11_due_34 rfl 2 rfl ?_
        refine a_iload_n dX11_due_35 rfl 3 rfl ?_
        refine a_cV_Si (r := p0) (ci := 12) (as := [.ref v7, .int p2, .int p3]) (st := []) dX11_due_36 (c_X11_dueOf l g h0 N p0 v7 p2 p3) rfl km_X11_dueOf (hm_X11_dueOf) rfl (by decide) rfl (fun _ ee => g_X11_dueOf ee) w_methodLink_RainCover_292 w_instanceMethod_RainCover_dueOf__LRainCover_Farm_II_I w_selects_RainCover_RainCover_dueOf__LRainCover_Farm_II_I_RainCover_dueOf__LRainCover_Farm_II_I ⟨⟨by decide, by decide⟩, ⟨by decide, by decide⟩⟩ (Nat.le_of_ble_eq_true rfl) (fun q8 => ?_)
        exact a_iret dX11_due_39 rfl rfl (by decide) (by decide)
      · refine a_bipush (v := (-5)) dX11_due_19 (by decide) ?_
        exact a_iret dX11_due_21 rfl rfl (by decide) (by decide)
theorem dX11_gatherCoveredPays_0 : decode cX11_gatherCoveredPays 0 = .ok (.iconst 0, 1) := by decide +kernel
theorem dX11_gatherCoveredPays_1 : decode cX11_gatherCoveredPays 1 = .ok (.istore_n 2, 1) := by decide +kernel
theorem dX11_gatherCoveredPays_2 : decode cX11_gatherCoveredPays 2 = .ok (.iload_n 2, 1) := by decide +kernel
theorem dX11_gatherCoveredPays_3 : decode cX11_gatherCoveredPays 3 = .ok (.aload_n 0, 1) := by decide +kernel
theorem dX11_gatherCoveredPays_4 : decode cX11_gatherCoveredPays 4 = .ok (.getfield 21, 3) := by decide +kernel
theorem dX11_gatherCoveredPays_7 : decode cX11_gatherCoveredPays 7 = .ok (.invokevirtual 104, 3) := by decide +kernel
theorem dX11_gatherCoveredPays_10 : decode cX11_gatherCoveredPays 10 = .ok (.if_icmp .ge 52, 3) := by decide +kernel
theorem dX11_gatherCoveredPays_13 : decode cX11_gatherCoveredPays 13 = .ok (.aload_n 0, 1) := by decide +kernel
theorem dX11_gatherCoveredPays_14 : decode cX11_gatherCoveredPays 14 = .ok (.iload_n 2, 1) := by decide +kernel
theorem dX11_gatherCoveredPays_15 : decode cX11_gatherCoveredPays 15 = .ok (.iload_n 1, 1) := by decide +kernel
theorem dX11_gatherCoveredPays_16 : decode cX11_gatherCoveredPays 16 = .ok (.invokevirtual 276, 3) := by decide +kernel
theorem dX11_gatherCoveredPays_19 : decode cX11_gatherCoveredPays 19 = .ok (.istore_n 3, 1) := by decide +kernel
theorem dX11_gatherCoveredPays_20 : decode cX11_gatherCoveredPays 20 = .ok (.aload_n 0, 1) := by decide +kernel
theorem dX11_gatherCoveredPays_21 : decode cX11_gatherCoveredPays 21 = .ok (.getfield 93, 3) := by decide +kernel
theorem dX11_gatherCoveredPays_24 : decode cX11_gatherCoveredPays 24 = .ok (.iload_n 2, 1) := by decide +kernel
theorem dX11_gatherCoveredPays_25 : decode cX11_gatherCoveredPays 25 = .ok (.iload_n 3, 1) := by decide +kernel
theorem dX11_gatherCoveredPays_26 : decode cX11_gatherCoveredPays 26 = .ok (.iconst (-1), 1) := by decide +kernel
theorem dX11_gatherCoveredPays_27 : decode cX11_gatherCoveredPays 27 = .ok (.if_icmp .ne 7, 3) := by decide +kernel
theorem dX11_gatherCoveredPays_30 : decode cX11_gatherCoveredPays 30 = .ok (.iconst 0, 1) := by decide +kernel
theorem dX11_gatherCoveredPays_31 : decode cX11_gatherCoveredPays 31 = .ok (.goto 24, 3) := by decide +kernel
theorem dX11_gatherCoveredPays_34 : decode cX11_gatherCoveredPays 34 = .ok (.aload_n 0, 1) := by decide +kernel
theorem dX11_gatherCoveredPays_35 : decode cX11_gatherCoveredPays 35 = .ok (.aload_n 0, 1) := by decide +kernel
theorem dX11_gatherCoveredPays_36 : decode cX11_gatherCoveredPays 36 = .ok (.getfield 21, 3) := by decide +kernel
theorem dX11_gatherCoveredPays_39 : decode cX11_gatherCoveredPays 39 = .ok (.iload_n 2, 1) := by decide +kernel
theorem dX11_gatherCoveredPays_40 : decode cX11_gatherCoveredPays 40 = .ok (.invokevirtual 124, 3) := by decide +kernel
theorem dX11_gatherCoveredPays_43 : decode cX11_gatherCoveredPays 43 = .ok (.checkcast 233, 3) := by decide +kernel
theorem dX11_gatherCoveredPays_46 : decode cX11_gatherCoveredPays 46 = .ok (.iload_n 1, 1) := by decide +kernel
theorem dX11_gatherCoveredPays_47 : decode cX11_gatherCoveredPays 47 = .ok (.iload_n 3, 1) := by decide +kernel
theorem dX11_gatherCoveredPays_48 : decode cX11_gatherCoveredPays 48 = .ok (.aload_n 0, 1) := by decide +kernel
theorem dX11_gatherCoveredPays_49 : decode cX11_gatherCoveredPays 49 = .ok (.invokevirtual 179, 3) := by decide +kernel
theorem dX11_gatherCoveredPays_52 : decode cX11_gatherCoveredPays 52 = .ok (.invokevirtual 282, 3) := by decide +kernel
theorem dX11_gatherCoveredPays_55 : decode cX11_gatherCoveredPays 55 = .ok (.iastore, 1) := by decide +kernel
theorem dX11_gatherCoveredPays_56 : decode cX11_gatherCoveredPays 56 = .ok (.iinc 2 1, 3) := by decide +kernel
theorem dX11_gatherCoveredPays_59 : decode cX11_gatherCoveredPays 59 = .ok (.goto (-57), 3) := by decide +kernel
theorem dX11_gatherCoveredPays_62 : decode cX11_gatherCoveredPays 62 = .ok (.return_, 1) := by decide +kernel
abbrev M_X11_gatherCoveredPays : MI := (RX11, cX11_gatherCoveredPays, 4, none, ({ frames := 7, cells := 0, slots := 0, locals := 173 } : Room), 0, 0, false)
def f_X11_gatherCoveredPays_b55 (N : Nat) (K2 : AH → Nat → Int32 → Int32 → Option AH) (h : AH) (x0 : Nat) (x1 : Int32) (x2 : Int32) (s3 : Int32) (s4 : Int32) (s5 : Nat) : Option AH := (xis h s5 s4 s3).bind fun h11 => K2 h11 x0 x1 (x2 + 1)
def f_X11_gatherCoveredPays_b2_body (N : Nat) (K2 : AH → Nat → Int32 → Int32 → Option AH) (h : AH) (x0 : Nat) (x1 : Int32) (x2 : Int32) : Option AH := (xgr h x0 12 2).bind fun v1 => (f_Jx4a65c_size_8abf5 h v1).bind fun v2 => (if v2 ≤ x2 then some h else (f_X11_termOf h N x0 x2 x1).bind fun v4 => (xgr h x0 12 19).bind fun v5 => (if v4 = (-1) then f_X11_gatherCoveredPays_b55 N K2 h x0 x1 x2 0 x2 v5 else (xgr h x0 12 2).bind fun v7 => (f_Jx4a65c_get_915e3 h v7 x2).bind fun v8 => (xcc h v8 3).bind fun _ => (f_X11_now h x0).bind fun v9 => (f_X11_payOf h N x0 v8 x1 v4 v9).bind fun q10 => f_X11_gatherCoveredPays_b55 N K2 q10.2 x0 x1 x2 q10.1 x2 v5))
def f_X11_gatherCoveredPays_b2 (N : Nat) : Nat → AH → Nat → Int32 → Int32 → Option AH
  | 0, _, _, _, _ => none
  | n + 1, h, x0, x1, x2 => f_X11_gatherCoveredPays_b2_body N  (f_X11_gatherCoveredPays_b2 N  n) h x0 x1 x2
def f_X11_gatherCoveredPays (h0 : AH) (N : Nat) (p0 : Nat) (p1 : Int32) : Option AH := if kd h0 p0 = 12 + 1 then f_X11_gatherCoveredPays_b2 N N h0 p0 p1 0 else none
theorem g_X11_gatherCoveredPays {h0 : AH} {N : Nat} {p0 : Nat} {p1 : Int32} {x : AH} (e : f_X11_gatherCoveredPays h0 N p0 p1 = some x) : kd h0 p0 = 12 + 1 := by
  unfold f_X11_gatherCoveredPays at e
  by_cases hk : kd h0 p0 = 12 + 1
  · exact hk
  · rw [if_neg hk] at e
    cases e
theorem km_X11_gatherCoveredPays : KM yX11_gatherCoveredPays M_X11_gatherCoveredPays 1 := ⟨in_tb 828 (by decide +kernel) rfl, in_tb 1 (by decide +kernel) rfl, by decide +kernel, rfl, rfl⟩
theorem hm_X11_gatherCoveredPays : M_X11_gatherCoveredPays.2.2.2.2.2.1 = 0 ∧ M_X11_gatherCoveredPays.2.2.2.2.2.2.1 = 0 := ⟨rfl, rfl⟩
section
variable {l : Launch} {g : GG}
set_option maxRecDepth 100000 in
set_option maxHeartbeats 4000000 in
theorem t_X11_gatherCoveredPays_b55 (h0 : AH) (N : Nat) (K2 : AH → Nat → Int32 → Int32 → Option AH) (hK2 : ∀ (z : AH) (z0 : Nat) (z1 : Int32) (z2 : Int32), AO l g M_X11_gatherCoveredPays false h0 2 [(0, .ref z0), (1, .int z1), (2, .int z2)] [] z 0 0 rSv (K2 z z0 z1 z2)) (h : AH) (x0 : Nat) (x1 : Int32) (x2 : Int32) (s3 : Int32) (s4 : Int32) (s5 : Nat) : AO l g M_X11_gatherCoveredPays false h0 55 [(0, .ref x0), (1, .int x1), (2, .int x2)] [.int s3, .int s4, .ref s5] h 0 0 rSv (f_X11_gatherCoveredPays_b55 N K2 h x0 x1 x2 s3 s4 s5) := by
  unfold f_X11_gatherCoveredPays_b55
  refine a_iast dX11_gatherCoveredPays_55 (fun h11 => ?_)
  refine a_iinc (q := 2) (v := (x2 + 1)) (lc2 := [(2, .int (x2 + 1)), (0, .ref x0), (1, .int x1)]) dX11_gatherCoveredPays_56 rfl rfl (by decide) rfl ?_
  refine a_goto 2 dX11_gatherCoveredPays_59 (by decide) ?_
  refine a_pick (lc2 := [(0, .ref x0), (1, .int x1), (2, .int (x2 + 1))]) [1, 2, 0] rfl ?_
  exact hK2 h11 x0 x1 (x2 + 1)
set_option maxRecDepth 100000 in
set_option maxHeartbeats 4000000 in
theorem t_X11_gatherCoveredPays_b2_body (h0 : AH) (N : Nat) (K2 : AH → Nat → Int32 → Int32 → Option AH) (hK2 : ∀ (z : AH) (z0 : Nat) (z1 : Int32) (z2 : Int32), AO l g M_X11_gatherCoveredPays false h0 2 [(0, .ref z0), (1, .int z1), (2, .int z2)] [] z 0 0 rSv (K2 z z0 z1 z2)) (h : AH) (x0 : Nat) (x1 : Int32) (x2 : Int32) : AO l g M_X11_gatherCoveredPays false h0 2 [(0, .ref x0), (1, .int x1), (2, .int x2)] [] h 0 0 rSv (f_X11_gatherCoveredPays_b2_body N K2 h x0 x1 x2) := by
  unfold f_X11_gatherCoveredPays_b2_body
  refine a_iload_n dX11_gatherCoveredPays_2 rfl 2 rfl ?_
  refine a_aload_n dX11_gatherCoveredPays_3 rfl 0 rfl ?_
  refine a_getr kc12 2 dX11_gatherCoveredPays_4 (by decide) rfl w_fieldLink_RainCover_21 (fun v1 => ?_)
  refine a_cV_Pi (r := v1) (ci := 0) (as := []) (st := [.int x2]) dX11_gatherCoveredPays_7 (c_Jx4a65c_size_8abf5 l g h v1) rfl km_Jx4a65c_size_8abf5 (hm_Jx4a65c_size_8abf5) rfl (by decide) rfl (fun _ ee => g_Jx4a65c_size_8abf5 ee) w_methodLink_RainCover_104 w_instanceMethod_java_util_ArrayList_size___I w_selects_java_util_ArrayList_java_util_ArrayList_size___I_java_util_ArrayList_size___I ⟨⟨by decide, by decide⟩, ⟨by decide, by decide⟩⟩ (Nat.le_of_ble_eq_true rfl) (fun v2 => ?_)
  refine a_icmp_ge 62 dX11_gatherCoveredPays_10 (by decide) (fun c3 => ?_) (fun c3 => ?_)
  · exact a_vret dX11_gatherCoveredPays_62 rfl rfl (by decide) (by decide)
  · refine a_aload_n dX11_gatherCoveredPays_13 rfl 0 rfl ?_
    refine a_iload_n dX11_gatherCoveredPays_14 rfl 2 rfl ?_
    refine a_iload_n dX11_gatherCoveredPays_15 rfl 1 rfl ?_
    refine a_cV_Pi (r := x0) (ci := 12) (as := [.int x2, .int x1]) (st := []) dX11_gatherCoveredPays_16 (c_X11_termOf l g h N x0 x2 x1) rfl km_X11_termOf (hm_X11_termOf) rfl (by decide) rfl (fun _ ee => g_X11_termOf ee) w_methodLink_RainCover_276 w_instanceMethod_RainCover_termOf__II_I w_selects_RainCover_RainCover_termOf__II_I_RainCover_termOf__II_I ⟨⟨by decide, by decide⟩, ⟨by decide, by decide⟩⟩ (Nat.le_of_ble_eq_true rfl) (fun v4 => ?_)
    refine a_istore_n (lc2 := [(3, .int v4), (0, .ref x0), (1, .int x1), (2, .int x2)]) dX11_gatherCoveredPays_19 rfl (by decide) rfl ?_
    refine a_aload_n dX11_gatherCoveredPays_20 rfl 1 rfl ?_
    refine a_getr kc12 19 dX11_gatherCoveredPays_21 (by decide) rfl w_fieldLink_RainCover_93 (fun v5 => ?_)
    refine a_iload_n dX11_gatherCoveredPays_24 rfl 3 rfl ?_
    refine a_iload_n dX11_gatherCoveredPays_25 rfl 0 rfl ?_
    refine a_iconst (v := (-1)) dX11_gatherCoveredPays_26 (by decide) ?_
    refine a_icmp_ne 34 dX11_gatherCoveredPays_27 (by decide) (fun c6 => ?_) (fun c6 => ?_)
    · refine a_iconst (v := 0) dX11_gatherCoveredPays_30 (by decide) ?_
      refine a_goto 55 dX11_gatherCoveredPays_31 (by decide) ?_
      refine a_pick (lc2 := [(0, .ref x0), (1, .int x1), (2, .int x2)]) [1, 2, 3] rfl ?_
      exact t_X11_gatherCoveredPays_b55 h0 N K2 hK2 h x0 x1 x2 0 x2 v5
    · refine a_aload_n dX11_gatherCoveredPays_34 rfl 1 rfl ?_
      refine a_aload_n dX11_gatherCoveredPays_35 rfl 1 rfl ?_
      refine a_getr kc12 2 dX11_gatherCoveredPays_36 (by decide) rfl w_fieldLink_RainCover_21 (fun v7 => ?_)
      refine a_iload_n dX11_gatherCoveredPays_39 rfl 3 rfl ?_
      refine a_cV_Pr (r := v7) (ci := 0) (as := [.int x2]) (st := [.ref x0, .int x2, .ref v5]) dX11_gatherCoveredPays_40 (c_Jx4a65c_get_915e3 l g h v7 x2) rfl km_Jx4a65c_get_915e3 (hm_Jx4a65c_get_915e3) rfl (by decide) rfl (fun _ ee => g_Jx4a65c_get_915e3 ee) w_methodLink_RainCover_124 w_instanceMethod_java_util_ArrayList_get__I_Ljava_lang_Object_ w_selects_java_util_ArrayList_java_util_ArrayList_get__I_Ljava_lang_Object__java_util_ArrayList_get__I_Ljava_lang_Object_ ⟨⟨by decide, by decide⟩, ⟨by decide, by decide⟩⟩ (Nat.le_of_ble_eq_true rfl) (fun v8 => ?_)
      refine a_cast kc3 dX11_gatherCoveredPays_43 w_classLink_RainCover_233 ?_
      refine a_iload_n dX11_gatherCoveredPays_46 rfl 2 rfl ?_
      refine a_iload_n dX11_gatherCoveredPays_47 rfl 0 rfl ?_
      refine a_aload_n dX11_gatherCoveredPays_48 rfl 1 rfl ?_
      refine a_cV_Pi (r := x0) (ci := 12) (as := []) (st := [.int v4, .int x1, .ref v8, .ref x0, .int x2, .ref v5]) dX11_gatherCoveredPays_49 (c_X11_now l g h x0) rfl km_X11_now (hm_X11_now) rfl (by decide) rfl (fun _ ee => g_X11_now ee) w_methodLink_RainCover_179 w_instanceMethod_RainCover_now___I w_selects_RainCover_RainCover_now___I_RainCover_now___I ⟨⟨by decide, by decide⟩, ⟨by decide, by decide⟩⟩ (Nat.le_of_ble_eq_true rfl) (fun v9 => ?_)
      refine a_cV_Si (r := x0) (ci := 12) (as := [.ref v8, .int x1, .int v4, .int v9]) (st := [.int x2, .ref v5]) dX11_gatherCoveredPays_52 (c_X11_payOf l g h N x0 v8 x1 v4 v9) rfl km_X11_payOf (hm_X11_payOf) rfl (by decide) rfl (fun _ ee => g_X11_payOf ee) w_methodLink_RainCover_282 w_instanceMethod_RainCover_payOf__LRainCover_Farm_III_I w_selects_RainCover_RainCover_payOf__LRainCover_Farm_III_I_RainCover_payOf__LRainCover_Farm_III_I ⟨⟨by decide, by decide⟩, ⟨by decide, by decide⟩⟩ (Nat.le_of_ble_eq_true rfl) (fun q10 => ?_)
      refine a_pick (lc2 := [(0, .ref x0), (1, .int x1), (2, .int x2)]) [1, 2, 3] rfl ?_
      exact t_X11_gatherCoveredPays_b55 h0 N K2 hK2 q10.2 x0 x1 x2 q10.1 x2 v5
set_option maxRecDepth 100000 in
set_option maxHeartbeats 4000000 in
theorem t_X11_gatherCoveredPays_b2 (h0 : AH) (N : Nat) : ∀ (n : Nat) (h : AH) (x0 : Nat) (x1 : Int32) (x2 : Int32) , AO l g M_X11_gatherCoveredPays false h0 2 [(0, .ref x0), (1, .int x1), (2, .int x2)] [] h 0 0 rSv (f_X11_gatherCoveredPays_b2 N  n h x0 x1 x2) := by
  intro n
  induction n with
  | zero => intro h x0 x1 x2; exact a_eq rfl a_none
  | succ n ih => intro h x0 x1 x2; exact a_eq rfl (t_X11_gatherCoveredPays_b2_body h0 N  (f_X11_gatherCoveredPays_b2 N  n) ih h x0 x1 x2)
end
set_option maxRecDepth 100000 in
set_option maxHeartbeats 4000000 in
theorem c_X11_gatherCoveredPays (l : Launch) (g : GG) (h0 : AH) (N : Nat) (p0 : Nat) (p1 : Int32) : CN l g yX11_gatherCoveredPays M_X11_gatherCoveredPays false [.ref p0, .int p1] h0 rSv (f_X11_gatherCoveredPays h0 N p0 p1) := by
  refine CN.of (by decide) rfl (fun hh => by first | rfl | cases hh) (Nat.le_of_ble_eq_true rfl) ?_
  unfold f_X11_gatherCoveredPays
  refine a_gd (fun hkd => ?_)
  refine a_iconst (v := 0) dX11_gatherCoveredPays_0 (by decide) ?_
  refine a_istore_n (lc2 := [(2, .int 0), (0, .ref p0), (1, .int p1)]) dX11_gatherCoveredPays_1 rfl (by decide) rfl ?_
  refine a_pick (lc2 := [(0, .ref p0), (1, .int p1), (2, .int 0)]) [1, 2, 0] rfl ?_
  exact t_X11_gatherCoveredPays_b2 h0 N N h0 p0 p1 0
theorem dX11_isOverLine_0 : decode cX11_isOverLine 0 = .ok (.aload_n 0, 1) := by decide +kernel
theorem dX11_isOverLine_1 : decode cX11_isOverLine 1 = .ok (.getfield 21, 3) := by decide +kernel
theorem dX11_isOverLine_4 : decode cX11_isOverLine 4 = .ok (.iload_n 1, 1) := by decide +kernel
theorem dX11_isOverLine_5 : decode cX11_isOverLine 5 = .ok (.invokevirtual 124, 3) := by decide +kernel
theorem dX11_isOverLine_8 : decode cX11_isOverLine 8 = .ok (.checkcast 233, 3) := by decide +kernel
theorem dX11_isOverLine_11 : decode cX11_isOverLine 11 = .ok (.astore 5, 2) := by decide +kernel
theorem dX11_isOverLine_13 : decode cX11_isOverLine 13 = .ok (.aload_n 0, 1) := by decide +kernel
theorem dX11_isOverLine_14 : decode cX11_isOverLine 14 = .ok (.getfield 21, 3) := by decide +kernel
theorem dX11_isOverLine_17 : decode cX11_isOverLine 17 = .ok (.iload_n 2, 1) := by decide +kernel
theorem dX11_isOverLine_18 : decode cX11_isOverLine 18 = .ok (.invokevirtual 124, 3) := by decide +kernel
theorem dX11_isOverLine_21 : decode cX11_isOverLine 21 = .ok (.checkcast 233, 3) := by decide +kernel
theorem dX11_isOverLine_24 : decode cX11_isOverLine 24 = .ok (.astore 6, 2) := by decide +kernel
theorem dX11_isOverLine_26 : decode cX11_isOverLine 26 = .ok (.aload_n 0, 1) := by decide +kernel
theorem dX11_isOverLine_27 : decode cX11_isOverLine 27 = .ok (.getfield 93, 3) := by decide +kernel
theorem dX11_isOverLine_30 : decode cX11_isOverLine 30 = .ok (.iload_n 1, 1) := by decide +kernel
theorem dX11_isOverLine_31 : decode cX11_isOverLine 31 = .ok (.iaload, 1) := by decide +kernel
theorem dX11_isOverLine_32 : decode cX11_isOverLine 32 = .ok (.aload_n 0, 1) := by decide +kernel
theorem dX11_isOverLine_33 : decode cX11_isOverLine 33 = .ok (.getfield 93, 3) := by decide +kernel
theorem dX11_isOverLine_36 : decode cX11_isOverLine 36 = .ok (.iload_n 2, 1) := by decide +kernel
theorem dX11_isOverLine_37 : decode cX11_isOverLine 37 = .ok (.iaload, 1) := by decide +kernel
theorem dX11_isOverLine_38 : decode cX11_isOverLine 38 = .ok (.if_icmp .eq 31, 3) := by decide +kernel
theorem dX11_isOverLine_41 : decode cX11_isOverLine 41 = .ok (.aload 5, 2) := by decide +kernel
theorem dX11_isOverLine_43 : decode cX11_isOverLine 43 = .ok (.getfield 304, 3) := by decide +kernel
theorem dX11_isOverLine_46 : decode cX11_isOverLine 46 = .ok (.aload 5, 2) := by decide +kernel
theorem dX11_isOverLine_48 : decode cX11_isOverLine 48 = .ok (.getfield 305, 3) := by decide +kernel
theorem dX11_isOverLine_51 : decode cX11_isOverLine 51 = .ok (.aload 6, 2) := by decide +kernel
theorem dX11_isOverLine_53 : decode cX11_isOverLine 53 = .ok (.getfield 304, 3) := by decide +kernel
theorem dX11_isOverLine_56 : decode cX11_isOverLine 56 = .ok (.aload 6, 2) := by decide +kernel
theorem dX11_isOverLine_58 : decode cX11_isOverLine 58 = .ok (.getfield 305, 3) := by decide +kernel
theorem dX11_isOverLine_61 : decode cX11_isOverLine 61 = .ok (.invokestatic 188, 3) := by decide +kernel
theorem dX11_isOverLine_64 : decode cX11_isOverLine 64 = .ok (.iload 4, 2) := by decide +kernel
theorem dX11_isOverLine_66 : decode cX11_isOverLine 66 = .ok (.if_icmp .le 5, 3) := by decide +kernel
theorem dX11_isOverLine_69 : decode cX11_isOverLine 69 = .ok (.iconst 0, 1) := by decide +kernel
theorem dX11_isOverLine_70 : decode cX11_isOverLine 70 = .ok (.ireturn, 1) := by decide +kernel
theorem dX11_isOverLine_71 : decode cX11_isOverLine 71 = .ok (.aload_n 0, 1) := by decide +kernel
theorem dX11_isOverLine_72 : decode cX11_isOverLine 72 = .ok (.iload_n 1, 1) := by decide +kernel
theorem dX11_isOverLine_73 : decode cX11_isOverLine 73 = .ok (.iload_n 3, 1) := by decide +kernel
theorem dX11_isOverLine_74 : decode cX11_isOverLine 74 = .ok (.invokevirtual 276, 3) := by decide +kernel
theorem dX11_isOverLine_77 : decode cX11_isOverLine 77 = .ok (.istore 7, 2) := by decide +kernel
theorem dX11_isOverLine_79 : decode cX11_isOverLine 79 = .ok (.iload 7, 2) := by decide +kernel
theorem dX11_isOverLine_81 : decode cX11_isOverLine 81 = .ok (.iconst (-1), 1) := by decide +kernel
theorem dX11_isOverLine_82 : decode cX11_isOverLine 82 = .ok (.if_icmp .eq 14, 3) := by decide +kernel
theorem dX11_isOverLine_85 : decode cX11_isOverLine 85 = .ok (.iload 7, 2) := by decide +kernel
theorem dX11_isOverLine_87 : decode cX11_isOverLine 87 = .ok (.aload_n 0, 1) := by decide +kernel
theorem dX11_isOverLine_88 : decode cX11_isOverLine 88 = .ok (.iload_n 2, 1) := by decide +kernel
theorem dX11_isOverLine_89 : decode cX11_isOverLine 89 = .ok (.iload_n 3, 1) := by decide +kernel
theorem dX11_isOverLine_90 : decode cX11_isOverLine 90 = .ok (.invokevirtual 276, 3) := by decide +kernel
theorem dX11_isOverLine_93 : decode cX11_isOverLine 93 = .ok (.if_icmp .eq 5, 3) := by decide +kernel
theorem dX11_isOverLine_96 : decode cX11_isOverLine 96 = .ok (.iconst 0, 1) := by decide +kernel
theorem dX11_isOverLine_97 : decode cX11_isOverLine 97 = .ok (.ireturn, 1) := by decide +kernel
theorem dX11_isOverLine_98 : decode cX11_isOverLine 98 = .ok (.aload_n 0, 1) := by decide +kernel
theorem dX11_isOverLine_99 : decode cX11_isOverLine 99 = .ok (.aload 5, 2) := by decide +kernel
theorem dX11_isOverLine_101 : decode cX11_isOverLine 101 = .ok (.iload_n 3, 1) := by decide +kernel
theorem dX11_isOverLine_102 : decode cX11_isOverLine 102 = .ok (.invokevirtual 272, 3) := by decide +kernel
theorem dX11_isOverLine_105 : decode cX11_isOverLine 105 = .ok (.istore 8, 2) := by decide +kernel
theorem dX11_isOverLine_107 : decode cX11_isOverLine 107 = .ok (.iload 8, 2) := by decide +kernel
theorem dX11_isOverLine_109 : decode cX11_isOverLine 109 = .ok (.iconst (-1), 1) := by decide +kernel
theorem dX11_isOverLine_110 : decode cX11_isOverLine 110 = .ok (.if_icmp .eq 15, 3) := by decide +kernel
theorem dX11_isOverLine_113 : decode cX11_isOverLine 113 = .ok (.iload 8, 2) := by decide +kernel
theorem dX11_isOverLine_115 : decode cX11_isOverLine 115 = .ok (.aload_n 0, 1) := by decide +kernel
theorem dX11_isOverLine_116 : decode cX11_isOverLine 116 = .ok (.aload 6, 2) := by decide +kernel
theorem dX11_isOverLine_118 : decode cX11_isOverLine 118 = .ok (.iload_n 3, 1) := by decide +kernel
theorem dX11_isOverLine_119 : decode cX11_isOverLine 119 = .ok (.invokevirtual 272, 3) := by decide +kernel
theorem dX11_isOverLine_122 : decode cX11_isOverLine 122 = .ok (.if_icmp .eq 7, 3) := by decide +kernel
theorem dX11_isOverLine_125 : decode cX11_isOverLine 125 = .ok (.iconst 1, 1) := by decide +kernel
theorem dX11_isOverLine_126 : decode cX11_isOverLine 126 = .ok (.goto 4, 3) := by decide +kernel
theorem dX11_isOverLine_129 : decode cX11_isOverLine 129 = .ok (.iconst 0, 1) := by decide +kernel
theorem dX11_isOverLine_130 : decode cX11_isOverLine 130 = .ok (.ireturn, 1) := by decide +kernel
abbrev M_X11_isOverLine : MI := (RX11, cX11_isOverLine, 9, (some .boolean), ({ frames := 4, cells := 0, slots := 0, locals := 91 } : Room), 0, 0, false)
def f_X11_isOverLine_b125 (h : AH) (N : Nat) : Option Int32 := some 1
def f_X11_isOverLine (h : AH) (N : Nat) (p0 : Nat) (p1 : Int32) (p2 : Int32) (p3 : Int32) (p4 : Int32) : Option Int32 := if kd h p0 = 12 + 1 then (xgr h p0 12 2).bind fun v1 => (f_Jx4a65c_get_915e3 h v1 p1).bind fun v2 => (xcc h v2 3).bind fun _ => (xgr h p0 12 2).bind fun v3 => (f_Jx4a65c_get_915e3 h v3 p2).bind fun v4 => (xcc h v4 3).bind fun _ => (xgr h p0 12 19).bind fun v5 => (xia h v5 p1).bind fun v6 => (xgr h p0 12 19).bind fun v7 => (xia h v7 p2).bind fun v8 => (if v6 = v8 then some 0 else (xgi h v2 3 1).bind fun v10 => (xgi h v2 3 2).bind fun v11 => (xgi h v4 3 1).bind fun v12 => (xgi h v4 3 2).bind fun v13 => (f_X11_distance h v10 v11 v12 v13).bind fun v14 => (if v14 ≤ p4 then (f_X11_termOf h N p0 p1 p3).bind fun v16 => (if v16 = (-1) then some 0 else (f_X11_termOf h N p0 p2 p3).bind fun v18 => (if v16 = v18 then (f_X11_gaugeOf h N p0 v2 p3).bind fun v20 => (if v20 = (-1) then f_X11_isOverLine_b125 h N else (f_X11_gaugeOf h N p0 v4 p3).bind fun v22 => (if v20 = v22 then some 0 else f_X11_isOverLine_b125 h N)) else some 0)) else some 0)) else none
theorem g_X11_isOverLine {h : AH} {N : Nat} {p0 : Nat} {p1 : Int32} {p2 : Int32} {p3 : Int32} {p4 : Int32} {x : Int32} (e : f_X11_isOverLine h N p0 p1 p2 p3 p4 = some x) : kd h p0 = 12 + 1 := by
  unfold f_X11_isOverLine at e
  by_cases hk : kd h p0 = 12 + 1
  · exact hk
  · rw [if_neg hk] at e
    cases e
theorem km_X11_isOverLine : KM yX11_isOverLine M_X11_isOverLine 4 := ⟨in_tb 832 (by decide +kernel) rfl, in_tb 1 (by decide +kernel) rfl, by decide +kernel, rfl, rfl⟩
theorem hm_X11_isOverLine : M_X11_isOverLine.2.2.2.2.2.1 = 0 ∧ M_X11_isOverLine.2.2.2.2.2.2.1 = 0 := ⟨rfl, rfl⟩
section
variable {l : Launch} {g : GG}
set_option maxRecDepth 100000 in
set_option maxHeartbeats 4000000 in
theorem t_X11_isOverLine_b125 (h : AH) (N : Nat) : AO l g M_X11_isOverLine false h 125 [] [] h 0 0 (rPi h) (f_X11_isOverLine_b125 h N  ) := by
  unfold f_X11_isOverLine_b125
  refine a_iconst (v := 1) dX11_isOverLine_125 (by decide) ?_
  refine a_goto 130 dX11_isOverLine_126 (by decide) ?_
  exact a_zret dX11_isOverLine_130 rfl (Or.inr rfl) rfl (by decide) (by decide)
end
set_option maxRecDepth 100000 in
set_option maxHeartbeats 4000000 in
theorem c_X11_isOverLine (l : Launch) (g : GG) (h : AH) (N : Nat) (p0 : Nat) (p1 : Int32) (p2 : Int32) (p3 : Int32) (p4 : Int32) : CN l g yX11_isOverLine M_X11_isOverLine false [.ref p0, .int p1, .int p2, .int p3, .int p4] h ((rPi h)) (f_X11_isOverLine h N p0 p1 p2 p3 p4) := by
  refine CN.of (by decide) rfl (fun hh => by first | rfl | cases hh) (Nat.le_of_ble_eq_true rfl) ?_
  unfold f_X11_isOverLine
  refine a_gd (fun hkd => ?_)
  refine a_aload_n dX11_isOverLine_0 rfl 0 rfl ?_
  refine a_getr kc12 2 dX11_isOverLine_1 (by decide) rfl w_fieldLink_RainCover_21 (fun v1 => ?_)
  refine a_iload_n dX11_isOverLine_4 rfl 1 rfl ?_
  refine a_cV_Pr (r := v1) (ci := 0) (as := [.int p1]) (st := []) dX11_isOverLine_5 (c_Jx4a65c_get_915e3 l g h v1 p1) rfl km_Jx4a65c_get_915e3 (hm_Jx4a65c_get_915e3) rfl (by decide) rfl (fun _ ee => g_Jx4a65c_get_915e3 ee) w_methodLink_RainCover_124 w_instanceMethod_java_util_ArrayList_get__I_Ljava_lang_Object_ w_selects_java_util_ArrayList_java_util_ArrayList_get__I_Ljava_lang_Object__java_util_ArrayList_get__I_Ljava_lang_Object_ ⟨⟨by decide, by decide⟩, ⟨by decide, by decide⟩⟩ (Nat.le_of_ble_eq_true rfl) (fun v2 => ?_)
  refine a_cast kc3 dX11_isOverLine_8 w_classLink_RainCover_233 ?_
  refine a_astore (lc2 := [(5, .ref v2), (0, .ref p0), (1, .int p1), (2, .int p2), (3, .int p3), (4, .int p4)]) dX11_isOverLine_11 (by decide) rfl ?_
  refine a_aload_n dX11_isOverLine_13 rfl 1 rfl ?_
  refine a_getr kc12 2 dX11_isOverLine_14 (by decide) rfl w_fieldLink_RainCover_21 (fun v3 => ?_)
  refine a_iload_n dX11_isOverLine_17 rfl 3 rfl ?_
  refine a_cV_Pr (r := v3) (ci := 0) (as := [.int p2]) (st := []) dX11_isOverLine_18 (c_Jx4a65c_get_915e3 l g h v3 p2) rfl km_Jx4a65c_get_915e3 (hm_Jx4a65c_get_915e3) rfl (by decide) rfl (fun _ ee => g_Jx4a65c_get_915e3 ee) w_methodLink_RainCover_124 w_instanceMethod_java_util_ArrayList_get__I_Ljava_lang_Object_ w_selects_java_util_ArrayList_java_util_ArrayList_get__I_Ljava_lang_Object__java_util_ArrayList_get__I_Ljava_lang_Object_ ⟨⟨by decide, by decide⟩, ⟨by decide, by decide⟩⟩ (Nat.le_of_ble_eq_true rfl) (fun v4 => ?_)
  refine a_cast kc3 dX11_isOverLine_21 w_classLink_RainCover_233 ?_
  refine a_astore (lc2 := [(6, .ref v4), (5, .ref v2), (0, .ref p0), (1, .int p1), (2, .int p2), (3, .int p3), (4, .int p4)]) dX11_isOverLine_24 (by decide) rfl ?_
  refine a_aload_n dX11_isOverLine_26 rfl 2 rfl ?_
  refine a_getr kc12 19 dX11_isOverLine_27 (by decide) rfl w_fieldLink_RainCover_93 (fun v5 => ?_)
  refine a_iload_n dX11_isOverLine_30 rfl 3 rfl ?_
  refine a_iald dX11_isOverLine_31 (fun v6 => ?_)
  refine a_aload_n dX11_isOverLine_32 rfl 2 rfl ?_
  refine a_getr kc12 19 dX11_isOverLine_33 (by decide) rfl w_fieldLink_RainCover_93 (fun v7 => ?_)
  refine a_iload_n dX11_isOverLine_36 rfl 4 rfl ?_
  refine a_iald dX11_isOverLine_37 (fun v8 => ?_)
  refine a_icmp_eq 69 dX11_isOverLine_38 (by decide) (fun c9 => ?_) (fun c9 => ?_)
  · refine a_iconst (v := 0) dX11_isOverLine_69 (by decide) ?_
    exact a_zret dX11_isOverLine_70 rfl (Or.inl rfl) rfl (by decide) (by decide)
  · refine a_aload dX11_isOverLine_41 1 rfl ?_
    refine a_geti kc3 1 dX11_isOverLine_43 (by decide) rfl w_fieldLink_RainCover_304 (fun v10 => ?_)
    refine a_aload dX11_isOverLine_46 1 rfl ?_
    refine a_geti kc3 2 dX11_isOverLine_48 (by decide) rfl w_fieldLink_RainCover_305 (fun v11 => ?_)
    refine a_aload dX11_isOverLine_51 0 rfl ?_
    refine a_geti kc3 1 dX11_isOverLine_53 (by decide) rfl w_fieldLink_RainCover_304 (fun v12 => ?_)
    refine a_aload dX11_isOverLine_56 0 rfl ?_
    refine a_geti kc3 2 dX11_isOverLine_58 (by decide) rfl w_fieldLink_RainCover_305 (fun v13 => ?_)
    refine a_cS_Pi (as := [.int v10, .int v11, .int v12, .int v13]) (st := []) dX11_isOverLine_61 (c_X11_distance l g h v10 v11 v12 v13) rfl km_X11_distance (hm_X11_distance) w_methodLink_RainCover_188 w_static_RainCover_distance__IIII_I ⟨⟨by decide, by decide⟩, ⟨by decide, by decide⟩⟩ (Nat.le_of_ble_eq_true rfl) (fun v14 => ?_)
    refine a_iload dX11_isOverLine_64 6 rfl ?_
    refine a_icmp_le 71 dX11_isOverLine_66 (by decide) (fun c15 => ?_) (fun c15 => ?_)
    · refine a_aload_n dX11_isOverLine_71 rfl 2 rfl ?_
      refine a_iload_n dX11_isOverLine_72 rfl 3 rfl ?_
      refine a_iload_n dX11_isOverLine_73 rfl 5 rfl ?_
      refine a_cV_Pi (r := p0) (ci := 12) (as := [.int p1, .int p3]) (st := []) dX11_isOverLine_74 (c_X11_termOf l g h N p0 p1 p3) rfl km_X11_termOf (hm_X11_termOf) rfl (by decide) rfl (fun _ ee => g_X11_termOf ee) w_methodLink_RainCover_276 w_instanceMethod_RainCover_termOf__II_I w_selects_RainCover_RainCover_termOf__II_I_RainCover_termOf__II_I ⟨⟨by decide, by decide⟩, ⟨by decide, by decide⟩⟩ (Nat.le_of_ble_eq_true rfl) (fun v16 => ?_)
      refine a_istore (lc2 := [(7, .int v16), (6, .ref v4), (5, .ref v2), (0, .ref p0), (1, .int p1), (2, .int p2), (3, .int p3), (4, .int p4)]) dX11_isOverLine_77 (by decide) rfl ?_
      refine a_iload dX11_isOverLine_79 0 rfl ?_
      refine a_iconst (v := (-1)) dX11_isOverLine_81 (by decide) ?_
      refine a_icmp_eq 96 dX11_isOverLine_82 (by decide) (fun c17 => ?_) (fun c17 => ?_)
      · refine a_iconst (v := 0) dX11_isOverLine_96 (by decide) ?_
        exact a_zret dX11_isOverLine_97 rfl (Or.inl rfl) rfl (by decide) (by decide)
      · refine a_iload dX11_isOverLine_85 0 rfl ?_
        refine a_aload_n dX11_isOverLine_87 rfl 3 rfl ?_
        refine a_iload_n dX11_isOverLine_88 rfl 5 rfl ?_
        refine a_iload_n dX11_isOverLine_89 rfl 6 rfl ?_
        refine a_cV_Pi (r := p0) (ci := 12) (as := [.int p2, .int p3]) (st := [.int v16]) dX11_isOverLine_90 (c_X11_termOf l g h N p0 p2 p3) rfl km_X11_termOf (hm_X11_termOf) rfl (by decide) rfl (fun _ ee => g_X11_termOf ee) w_methodLink_RainCover_276 w_instanceMethod_RainCover_termOf__II_I w_selects_RainCover_RainCover_termOf__II_I_RainCover_termOf__II_I ⟨⟨by decide, by decide⟩, ⟨by decide, by decide⟩⟩ (Nat.le_of_ble_eq_true rfl) (fun v18 => ?_)
        refine a_icmp_eq 98 dX11_isOverLine_93 (by decide) (fun c19 => ?_) (fun c19 => ?_)
        · refine a_aload_n dX11_isOverLine_98 rfl 3 rfl ?_
          refine a_aload dX11_isOverLine_99 2 rfl ?_
          refine a_iload_n dX11_isOverLine_101 rfl 6 rfl ?_
          refine a_cV_Pi (r := p0) (ci := 12) (as := [.ref v2, .int p3]) (st := []) dX11_isOverLine_102 (c_X11_gaugeOf l g h N p0 v2 p3) rfl km_X11_gaugeOf (hm_X11_gaugeOf) rfl (by decide) rfl (fun _ ee => g_X11_gaugeOf ee) w_methodLink_RainCover_272 w_instanceMethod_RainCover_gaugeOf__LRainCover_Farm_I_I w_selects_RainCover_RainCover_gaugeOf__LRainCover_Farm_I_I_RainCover_gaugeOf__LRainCover_Farm_I_I ⟨⟨by decide, by decide⟩, ⟨by decide, by decide⟩⟩ (Nat.le_of_ble_eq_true rfl) (fun v20 => ?_)
          refine a_istore (lc2 := [(8, .int v20), (7, .int v16), (6, .ref v4), (5, .ref v2), (0, .ref p0), (1, .int p1), (2, .int p2), (3, .int p3), (4, .int p4)]) dX11_isOverLine_105 (by decide) rfl ?_
          refine a_iload dX11_isOverLine_107 0 rfl ?_
          refine a_iconst (v := (-1)) dX11_isOverLine_109 (by decide) ?_
          refine a_icmp_eq 125 dX11_isOverLine_110 (by decide) (fun c21 => ?_) (fun c21 => ?_)
          · refine a_pick (lc2 := []) [] rfl ?_
            exact t_X11_isOverLine_b125 h N
          · refine a_iload dX11_isOverLine_113 0 rfl ?_
            refine a_aload_n dX11_isOverLine_115 rfl 4 rfl ?_
            refine a_aload dX11_isOverLine_116 2 rfl ?_
            refine a_iload_n dX11_isOverLine_118 rfl 7 rfl ?_
            refine a_cV_Pi (r := p0) (ci := 12) (as := [.ref v4, .int p3]) (st := [.int v20]) dX11_isOverLine_119 (c_X11_gaugeOf l g h N p0 v4 p3) rfl km_X11_gaugeOf (hm_X11_gaugeOf) rfl (by decide) rfl (fun _ ee => g_X11_gaugeOf ee) w_methodLink_RainCover_272 w_instanceMethod_RainCover_gaugeOf__LRainCover_Farm_I_I w_selects_RainCover_RainCover_gaugeOf__LRainCover_Farm_I_I_RainCover_gaugeOf__LRainCover_Farm_I_I ⟨⟨by decide, by decide⟩, ⟨by decide, by decide⟩⟩ (Nat.le_of_ble_eq_true rfl) (fun v22 => ?_)
            refine a_icmp_eq 129 dX11_isOverLine_122 (by decide) (fun c23 => ?_) (fun c23 => ?_)
            · refine a_iconst (v := 0) dX11_isOverLine_129 (by decide) ?_
              exact a_zret dX11_isOverLine_130 rfl (Or.inl rfl) rfl (by decide) (by decide)
            · refine a_pick (lc2 := []) [] rfl ?_
              exact t_X11_isOverLine_b125 h N
        · refine a_iconst (v := 0) dX11_isOverLine_96 (by decide) ?_
          exact a_zret dX11_isOverLine_97 rfl (Or.inl rfl) rfl (by decide) (by decide)
    · refine a_iconst (v := 0) dX11_isOverLine_69 (by decide) ?_
      exact a_zret dX11_isOverLine_70 rfl (Or.inl rfl) rfl (by decide) (by decide)
theorem dX11_line_0 : decode cX11_line 0 = .ok (.iload_n 1, 1) := by decide +kernel
theorem dX11_line_1 : decode cX11_line 1 = .ok (.invokestatic 100, 3) := by decide +kernel
theorem dX11_line_4 : decode cX11_line 4 = .ok (.ifCond .eq 12, 3) := by decide +kernel
theorem dX11_line_7 : decode cX11_line 7 = .ok (.iload_n 3, 1) := by decide +kernel
theorem dX11_line_8 : decode cX11_line 8 = .ok (.iconst 0, 1) := by decide +kernel
theorem dX11_line_9 : decode cX11_line 9 = .ok (.iconst 2, 1) := by decide +kernel
theorem dX11_line_10 : decode cX11_line 10 = .ok (.invokestatic 120, 3) := by decide +kernel
theorem dX11_line_13 : decode cX11_line 13 = .ok (.ifCond .ne 5, 3) := by decide +kernel
theorem dX11_line_16 : decode cX11_line 16 = .ok (.iconst (-1), 1) := by decide +kernel
theorem dX11_line_17 : decode cX11_line 17 = .ok (.ireturn, 1) := by decide +kernel
theorem dX11_line_18 : decode cX11_line 18 = .ok (.iload_n 2, 1) := by decide +kernel
theorem dX11_line_19 : decode cX11_line 19 = .ok (.iconst 0, 1) := by decide +kernel
theorem dX11_line_20 : decode cX11_line 20 = .ok (.sipush 198, 3) := by decide +kernel
theorem dX11_line_23 : decode cX11_line 23 = .ok (.invokestatic 120, 3) := by decide +kernel
theorem dX11_line_26 : decode cX11_line 26 = .ok (.ifCond .ne 6, 3) := by decide +kernel
theorem dX11_line_29 : decode cX11_line 29 = .ok (.bipush (-2), 2) := by decide +kernel
theorem dX11_line_31 : decode cX11_line 31 = .ok (.ireturn, 1) := by decide +kernel
theorem dX11_line_32 : decode cX11_line 32 = .ok (.aload_n 0, 1) := by decide +kernel
theorem dX11_line_33 : decode cX11_line 33 = .ok (.iload_n 1, 1) := by decide +kernel
theorem dX11_line_34 : decode cX11_line 34 = .ok (.invokevirtual 296, 3) := by decide +kernel
theorem dX11_line_37 : decode cX11_line 37 = .ok (.iconst 0, 1) := by decide +kernel
theorem dX11_line_38 : decode cX11_line 38 = .ok (.istore 4, 2) := by decide +kernel
theorem dX11_line_40 : decode cX11_line 40 = .ok (.iconst 0, 1) := by decide +kernel
theorem dX11_line_41 : decode cX11_line 41 = .ok (.istore 5, 2) := by decide +kernel
theorem dX11_line_43 : decode cX11_line 43 = .ok (.iload 5, 2) := by decide +kernel
theorem dX11_line_45 : decode cX11_line 45 = .ok (.aload_n 0, 1) := by decide +kernel
theorem dX11_line_46 : decode cX11_line 46 = .ok (.getfield 21, 3) := by decide +kernel
theorem dX11_line_49 : decode cX11_line 49 = .ok (.invokevirtual 104, 3) := by decide +kernel
theorem dX11_line_52 : decode cX11_line 52 = .ok (.if_icmp .ge 68, 3) := by decide +kernel
theorem dX11_line_55 : decode cX11_line 55 = .ok (.iload 5, 2) := by decide +kernel
theorem dX11_line_57 : decode cX11_line 57 = .ok (.iconst 1, 1) := by decide +kernel
theorem dX11_line_58 : decode cX11_line 58 = .ok (.iadd, 1) := by decide +kernel
theorem dX11_line_59 : decode cX11_line 59 = .ok (.istore 6, 2) := by decide +kernel
theorem dX11_line_61 : decode cX11_line 61 = .ok (.iload 6, 2) := by decide +kernel
theorem dX11_line_63 : decode cX11_line 63 = .ok (.aload_n 0, 1) := by decide +kernel
theorem dX11_line_64 : decode cX11_line 64 = .ok (.getfield 21, 3) := by decide +kernel
theorem dX11_line_67 : decode cX11_line 67 = .ok (.invokevirtual 104, 3) := by decide +kernel
theorem dX11_line_70 : decode cX11_line 70 = .ok (.if_icmp .ge 44, 3) := by decide +kernel
theorem dX11_line_73 : decode cX11_line 73 = .ok (.aload_n 0, 1) := by decide +kernel
theorem dX11_line_74 : decode cX11_line 74 = .ok (.iload 5, 2) := by decide +kernel
theorem dX11_line_76 : decode cX11_line 76 = .ok (.iload 6, 2) := by decide +kernel
theorem dX11_line_78 : decode cX11_line 78 = .ok (.iload_n 1, 1) := by decide +kernel
theorem dX11_line_79 : decode cX11_line 79 = .ok (.iload_n 2, 1) := by decide +kernel
theorem dX11_line_80 : decode cX11_line 80 = .ok (.invokevirtual 300, 3) := by decide +kernel
theorem dX11_line_83 : decode cX11_line 83 = .ok (.ifCond .ne 6, 3) := by decide +kernel
theorem dX11_line_86 : decode cX11_line 86 = .ok (.goto 22, 3) := by decide +kernel
theorem dX11_line_89 : decode cX11_line 89 = .ok (.iload_n 3, 1) := by decide +kernel
theorem dX11_line_90 : decode cX11_line 90 = .ok (.iconst 1, 1) := by decide +kernel
theorem dX11_line_91 : decode cX11_line 91 = .ok (.if_icmp .ne 6, 3) := by decide +kernel
theorem dX11_line_94 : decode cX11_line 94 = .ok (.iload 5, 2) := by decide +kernel
theorem dX11_line_96 : decode cX11_line 96 = .ok (.ireturn, 1) := by decide +kernel
theorem dX11_line_97 : decode cX11_line 97 = .ok (.iload_n 3, 1) := by decide +kernel
theorem dX11_line_98 : decode cX11_line 98 = .ok (.iconst 2, 1) := by decide +kernel
theorem dX11_line_99 : decode cX11_line 99 = .ok (.if_icmp .ne 6, 3) := by decide +kernel
theorem dX11_line_102 : decode cX11_line 102 = .ok (.iload 6, 2) := by decide +kernel
theorem dX11_line_104 : decode cX11_line 104 = .ok (.ireturn, 1) := by decide +kernel
theorem dX11_line_105 : decode cX11_line 105 = .ok (.iinc 4 1, 3) := by decide +kernel
theorem dX11_line_108 : decode cX11_line 108 = .ok (.iinc 6 1, 3) := by decide +kernel
theorem dX11_line_111 : decode cX11_line 111 = .ok (.goto (-50), 3) := by decide +kernel
theorem dX11_line_114 : decode cX11_line 114 = .ok (.iinc 5 1, 3) := by decide +kernel
theorem dX11_line_117 : decode cX11_line 117 = .ok (.goto (-74), 3) := by decide +kernel
theorem dX11_line_120 : decode cX11_line 120 = .ok (.iload_n 3, 1) := by decide +kernel
theorem dX11_line_121 : decode cX11_line 121 = .ok (.ifCond .ne 8, 3) := by decide +kernel
theorem dX11_line_124 : decode cX11_line 124 = .ok (.iload 4, 2) := by decide +kernel
theorem dX11_line_126 : decode cX11_line 126 = .ok (.goto 4, 3) := by decide +kernel
theorem dX11_line_129 : decode cX11_line 129 = .ok (.iconst (-1), 1) := by decide +kernel
theorem dX11_line_130 : decode cX11_line 130 = .ok (.ireturn, 1) := by decide +kernel
abbrev M_X11_line : MI := (RX11, cX11_line, 7, (some .int), ({ frames := 8, cells := 0, slots := 0, locals := 196 } : Room), 0, 0, false)
def f_X11_line_b108 (N : Nat) (K43 : AH → Nat → Int32 → Int32 → Int32 → Int32 → Int32 → Option (Int32 × AH)) (K61 : AH → Nat → Int32 → Int32 → Int32 → Int32 → Int32 → Int32 → Option (Int32 × AH)) (h : AH) (x0 : Nat) (x1 : Int32) (x2 : Int32) (x3 : Int32) (x4 : Int32) (x5 : Int32) (x6 : Int32) : Option (Int32 × AH) := K61 h x0 x1 x2 x3 x4 x5 (x6 + 1)
def f_X11_line_b61_body (N : Nat) (K43 : AH → Nat → Int32 → Int32 → Int32 → Int32 → Int32 → Option (Int32 × AH)) (K61 : AH → Nat → Int32 → Int32 → Int32 → Int32 → Int32 → Int32 → Option (Int32 × AH)) (h : AH) (x0 : Nat) (x1 : Int32) (x2 : Int32) (x3 : Int32) (x4 : Int32) (x5 : Int32) (x6 : Int32) : Option (Int32 × AH) := (xgr h x0 12 2).bind fun v12 => (f_Jx4a65c_size_8abf5 h v12).bind fun v13 => (if v13 ≤ x6 then K43 h x0 x1 x2 x3 x4 (x5 + 1) else (f_X11_isOverLine h N x0 x5 x6 x1 x2).bind fun v15 => (if v15 = 0 then f_X11_line_b108 N K43 K61 h x0 x1 x2 x3 x4 x5 x6 else (if x3 = 1 then some (x5, h) else (if x3 = 2 then some (x6, h) else f_X11_line_b108 N K43 K61 h x0 x1 x2 x3 (x4 + 1) x5 x6))))
def f_X11_line_b61 (N : Nat) (K43 : AH → Nat → Int32 → Int32 → Int32 → Int32 → Int32 → Option (Int32 × AH)) : Nat → AH → Nat → Int32 → Int32 → Int32 → Int32 → Int32 → Int32 → Option (Int32 × AH)
  | 0, _, _, _, _, _, _, _, _ => none
  | n + 1, h, x0, x1, x2, x3, x4, x5, x6 => f_X11_line_b61_body N K43 (f_X11_line_b61 N K43 n) h x0 x1 x2 x3 x4 x5 x6
def f_X11_line_b43_body (N : Nat) (K43 : AH → Nat → Int32 → Int32 → Int32 → Int32 → Int32 → Option (Int32 × AH)) (h : AH) (x0 : Nat) (x1 : Int32) (x2 : Int32) (x3 : Int32) (x4 : Int32) (x5 : Int32) : Option (Int32 × AH) := (xgr h x0 12 2).bind fun v8 => (f_Jx4a65c_size_8abf5 h v8).bind fun v9 => (if v9 ≤ x5 then (if x3 = 0 then some (x4, h) else some ((-1), h)) else f_X11_line_b61 N K43 N h x0 x1 x2 x3 x4 x5 (x5 + 1))
def f_X11_line_b43 (N : Nat) : Nat → AH → Nat → Int32 → Int32 → Int32 → Int32 → Int32 → Option (Int32 × AH)
  | 0, _, _, _, _, _, _, _ => none
  | n + 1, h, x0, x1, x2, x3, x4, x5 => f_X11_line_b43_body N  (f_X11_line_b43 N  n) h x0 x1 x2 x3 x4 x5
def f_X11_line (h0 : AH) (N : Nat) (p0 : Nat) (p1 : Int32) (p2 : Int32) (p3 : Int32) : Option (Int32 × AH) := if kd h0 p0 = 12 + 1 then (f_X11_isSeason h0 p1).bind fun v1 => (if v1 = 0 then some ((-1), h0) else (f_X11_within h0 p3 0 2).bind fun v3 => (if v3 = 0 then some ((-1), h0) else (f_X11_within h0 p2 0 198).bind fun v5 => (if v5 = 0 then some ((-2), h0) else (f_X11_gatherCoveredPays h0 N p0 p1).bind fun q7 => f_X11_line_b43 N N q7 p0 p1 p2 p3 0 0))) else none
theorem g_X11_line {h0 : AH} {N : Nat} {p0 : Nat} {p1 : Int32} {p2 : Int32} {p3 : Int32} {x : (Int32 × AH)} (e : f_X11_line h0 N p0 p1 p2 p3 = some x) : kd h0 p0 = 12 + 1 := by
  unfold f_X11_line at e
  by_cases hk : kd h0 p0 = 12 + 1
  · exact hk
  · rw [if_neg hk] at e
    cases e
theorem km_X11_line : KM yX11_line M_X11_line 3 := ⟨in_tb 824 (by decide +kernel) rfl, in_tb 1 (by decide +kernel) rfl, by decide +kernel, rfl, rfl⟩
theorem hm_X11_line : M_X11_line.2.2.2.2.2.1 = 0 ∧ M_X11_line.2.2.2.2.2.2.1 = 0 := ⟨rfl, rfl⟩
section
variable {l : Launch} {g : GG}
set_option maxRecDepth 100000 in
set_option maxHeartbeats 4000000 in
theorem t_X11_line_b108 (h0 : AH) (N : Nat) (K43 : AH → Nat → Int32 → Int32 → Int32 → Int32 → Int32 → Option (Int32 × AH)) (hK43 : ∀ (z : AH) (z0 : Nat) (z1 : Int32) (z2 : Int32) (z3 : Int32) (z4 : Int32) (z5 : Int32), AO l g M_X11_line false h0 43 [(0, .ref z0), (1, .int z1), (2, .int z2), (3, .int z3), (4, .int z4), (5, .int z5)] [] z 0 0 rSi (K43 z z0 z1 z2 z3 z4 z5)) (K61 : AH → Nat → Int32 → Int32 → Int32 → Int32 → Int32 → Int32 → Option (Int32 × AH)) (hK61 : ∀ (z : AH) (z0 : Nat) (z1 : Int32) (z2 : Int32) (z3 : Int32) (z4 : Int32) (z5 : Int32) (z6 : Int32), AO l g M_X11_line false h0 61 [(0, .ref z0), (1, .int z1), (2, .int z2), (3, .int z3), (4, .int z4), (5, .int z5), (6, .int z6)] [] z 0 0 rSi (K61 z z0 z1 z2 z3 z4 z5 z6)) (h : AH) (x0 : Nat) (x1 : Int32) (x2 : Int32) (x3 : Int32) (x4 : Int32) (x5 : Int32) (x6 : Int32) : AO l g M_X11_line false h0 108 [(0, .ref x0), (1, .int x1), (2, .int x2), (3, .int x3), (4, .int x4), (5, .int x5), (6, .int x6)] [] h 0 0 rSi (f_X11_line_b108 N K43 K61 h x0 x1 x2 x3 x4 x5 x6) := by
  unfold f_X11_line_b108
  refine a_iinc (q := 6) (v := (x6 + 1)) (lc2 := [(6, .int (x6 + 1)), (0, .ref x0), (1, .int x1), (2, .int x2), (3, .int x3), (4, .int x4), (5, .int x5)]) dX11_line_108 rfl rfl (by decide) rfl ?_
  refine a_goto 61 dX11_line_111 (by decide) ?_
  refine a_pick (lc2 := [(0, .ref x0), (1, .int x1), (2, .int x2), (3, .int x3), (4, .int x4), (5, .int x5), (6, .int (x6 + 1))]) [1, 2, 3, 4, 5, 6, 0] rfl ?_
  exact hK61 h x0 x1 x2 x3 x4 x5 (x6 + 1)
set_option maxRecDepth 100000 in
set_option maxHeartbeats 4000000 in
theorem t_X11_line_b61_body (h0 : AH) (N : Nat) (K43 : AH → Nat → Int32 → Int32 → Int32 → Int32 → Int32 → Option (Int32 × AH)) (hK43 : ∀ (z : AH) (z0 : Nat) (z1 : Int32) (z2 : Int32) (z3 : Int32) (z4 : Int32) (z5 : Int32), AO l g M_X11_line false h0 43 [(0, .ref z0), (1, .int z1), (2, .int z2), (3, .int z3), (4, .int z4), (5, .int z5)] [] z 0 0 rSi (K43 z z0 z1 z2 z3 z4 z5)) (K61 : AH → Nat → Int32 → Int32 → Int32 → Int32 → Int32 → Int32 → Option (Int32 × AH)) (hK61 : ∀ (z : AH) (z0 : Nat) (z1 : Int32) (z2 : Int32) (z3 : Int32) (z4 : Int32) (z5 : Int32) (z6 : Int32), AO l g M_X11_line false h0 61 [(0, .ref z0), (1, .int z1), (2, .int z2), (3, .int z3), (4, .int z4), (5, .int z5), (6, .int z6)] [] z 0 0 rSi (K61 z z0 z1 z2 z3 z4 z5 z6)) (h : AH) (x0 : Nat) (x1 : Int32) (x2 : Int32) (x3 : Int32) (x4 : Int32) (x5 : Int32) (x6 : Int32) : AO l g M_X11_line false h0 61 [(0, .ref x0), (1, .int x1), (2, .int x2), (3, .int x3), (4, .int x4), (5, .int x5), (6, .int x6)] [] h 0 0 rSi (f_X11_line_b61_body N K43 K61 h x0 x1 x2 x3 x4 x5 x6) := by
  unfold f_X11_line_b61_body
  refine a_iload dX11_line_61 6 rfl ?_
  refine a_aload_n dX11_line_63 rfl 0 rfl ?_
  refine a_getr kc12 2 dX11_line_64 (by decide) rfl w_fieldLink_RainCover_21 (fun v12 => ?_)
  refine a_cV_Pi (r := v12) (ci := 0) (as := []) (st := [.int x6]) dX11_line_67 (c_Jx4a65c_size_8abf5 l g h v12) rfl km_Jx4a65c_size_8abf5 (hm_Jx4a65c_size_8abf5) rfl (by decide) rfl (fun _ ee => g_Jx4a65c_size_8abf5 ee) w_methodLink_RainCover_104 w_instanceMethod_java_util_ArrayList_size___I w_selects_java_util_ArrayList_java_util_ArrayList_size___I_java_util_ArrayList_size___I ⟨⟨by decide, by decide⟩, ⟨by decide, by decide⟩⟩ (Nat.le_of_ble_eq_true rfl) (fun v13 => ?_)
  refine a_icmp_ge 114 dX11_line_70 (by decide) (fun c14 => ?_) (fun c14 => ?_)
  · refine a_iinc (q := 5) (v := (x5 + 1)) (lc2 := [(5, .int (x5 + 1)), (0, .ref x0), (1, .int x1), (2, .int x2), (3, .int x3), (4, .int x4), (6, .int x6)]) dX11_line_114 rfl rfl (by decide) rfl ?_
    refine a_goto 43 dX11_line_117 (by decide) ?_
    refine a_pick (lc2 := [(0, .ref x0), (1, .int x1), (2, .int x2), (3, .int x3), (4, .int x4), (5, .int (x5 + 1))]) [1, 2, 3, 4, 5, 0] rfl ?_
    exact hK43 h x0 x1 x2 x3 x4 (x5 + 1)
  · refine a_aload_n dX11_line_73 rfl 0 rfl ?_
    refine a_iload dX11_line_74 5 rfl ?_
    refine a_iload dX11_line_76 6 rfl ?_
    refine a_iload_n dX11_line_78 rfl 1 rfl ?_
    refine a_iload_n dX11_line_79 rfl 2 rfl ?_
    refine a_cV_Pi (r := x0) (ci := 12) (as := [.int x5, .int x6, .int x1, .int x2]) (st := []) dX11_line_80 (c_X11_isOverLine l g h N x0 x5 x6 x1 x2) rfl km_X11_isOverLine (hm_X11_isOverLine) rfl (by decide) rfl (fun _ ee => g_X11_isOverLine ee) w_methodLink_RainCover_300 w_instanceMethod_RainCover_isOverLine__IIII_Z w_selects_RainCover_RainCover_isOverLine__IIII_Z_RainCover_isOverLine__IIII_Z ⟨⟨by decide, by decide⟩, ⟨by decide, by decide⟩⟩ (Nat.le_of_ble_eq_true rfl) (fun v15 => ?_)
    refine a_if_ne 89 dX11_line_83 (by decide) (fun c16 => ?_) (fun c16 => ?_)
    · refine a_goto 108 dX11_line_86 (by decide) ?_
      exact t_X11_line_b108 h0 N K43 hK43 K61 hK61 h x0 x1 x2 x3 x4 x5 x6
    · refine a_iload_n dX11_line_89 rfl 3 rfl ?_
      refine a_iconst (v := 1) dX11_line_90 (by decide) ?_
      refine a_icmp_ne 97 dX11_line_91 (by decide) (fun c17 => ?_) (fun c17 => ?_)
      · refine a_iload dX11_line_94 5 rfl ?_
        exact a_iret dX11_line_96 rfl rfl (by decide) (by decide)
      · refine a_iload_n dX11_line_97 rfl 3 rfl ?_
        refine a_iconst (v := 2) dX11_line_98 (by decide) ?_
        refine a_icmp_ne 105 dX11_line_99 (by decide) (fun c18 => ?_) (fun c18 => ?_)
        · refine a_iload dX11_line_102 6 rfl ?_
          exact a_iret dX11_line_104 rfl rfl (by decide) (by decide)
        · refine a_iinc (q := 4) (v := (x4 + 1)) (lc2 := [(4, .int (x4 + 1)), (0, .ref x0), (1, .int x1), (2, .int x2), (3, .int x3), (5, .int x5), (6, .int x6)]) dX11_line_105 rfl rfl (by decide) rfl ?_
          refine a_pick (lc2 := [(0, .ref x0), (1, .int x1), (2, .int x2), (3, .int x3), (4, .int (x4 + 1)), (5, .int x5), (6, .int x6)]) [1, 2, 3, 4, 0, 5, 6] rfl ?_
          exact t_X11_line_b108 h0 N K43 hK43 K61 hK61 h x0 x1 x2 x3 (x4 + 1) x5 x6
set_option maxRecDepth 100000 in
set_option maxHeartbeats 4000000 in
theorem t_X11_line_b61 (h0 : AH) (N : Nat) (K43 : AH → Nat → Int32 → Int32 → Int32 → Int32 → Int32 → Option (Int32 × AH)) (hK43 : ∀ (z : AH) (z0 : Nat) (z1 : Int32) (z2 : Int32) (z3 : Int32) (z4 : Int32) (z5 : Int32), AO l g M_X11_line false h0 43 [(0, .ref z0), (1, .int z1), (2, .int z2), (3, .int z3), (4, .int z4), (5, .int z5)] [] z 0 0 rSi (K43 z z0 z1 z2 z3 z4 z5)) : ∀ (n : Nat) (h : AH) (x0 : Nat) (x1 : Int32) (x2 : Int32) (x3 : Int32) (x4 : Int32) (x5 : Int32) (x6 : Int32) , AO l g M_X11_line false h0 61 [(0, .ref x0), (1, .int x1), (2, .int x2), (3, .int x3), (4, .int x4), (5, .int x5), (6, .int x6)] [] h 0 0 rSi (f_X11_line_b61 N K43 n h x0 x1 x2 x3 x4 x5 x6) := by
  intro n
  induction n with
  | zero => intro h x0 x1 x2 x3 x4 x5 x6; exact a_eq rfl a_none
  | succ n ih => intro h x0 x1 x2 x3 x4 x5 x6; exact a_eq rfl (t_X11_line_b61_body h0 N (K43) (hK43) (f_X11_line_b61 N K43 n) ih h x0 x1 x2 x3 x4 x5 x6)
set_option maxRecDepth 100000 in
set_option maxHeartbeats 4000000 in
theorem t_X11_line_b43_body (h0 : AH) (N : Nat) (K43 : AH → Nat → Int32 → Int32 → Int32 → Int32 → Int32 → Option (Int32 × AH)) (hK43 : ∀ (z : AH) (z0 : Nat) (z1 : Int32) (z2 : Int32) (z3 : Int32) (z4 : Int32) (z5 : Int32), AO l g M_X11_line false h0 43 [(0, .ref z0), (1, .int z1), (2, .int z2), (3, .int z3), (4, .int z4), (5, .int z5)] [] z 0 0 rSi (K43 z z0 z1 z2 z3 z4 z5)) (h : AH) (x0 : Nat) (x1 : Int32) (x2 : Int32) (x3 : Int32) (x4 : Int32) (x5 : Int32) : AO l g M_X11_line false h0 43 [(0, .ref x0), (1, .int x1), (2, .int x2), (3, .int x3), (4, .int x4), (5, .int x5)] [] h 0 0 rSi (f_X11_line_b43_body N K43 h x0 x1 x2 x3 x4 x5) := by
  unfold f_X11_line_b43_body
  refine a_iload dX11_line_43 5 rfl ?_
  refine a_aload_n dX11_line_45 rfl 0 rfl ?_
  refine a_getr kc12 2 dX11_line_46 (by decide) rfl w_fieldLink_RainCover_21 (fun v8 => ?_)
  refine a_cV_Pi (r := v8) (ci := 0) (as := []) (st := [.int x5]) dX11_line_49 (c_Jx4a65c_size_8abf5 l g h v8) rfl km_Jx4a65c_size_8abf5 (hm_Jx4a65c_size_8abf5) rfl (by decide) rfl (fun _ ee => g_Jx4a65c_size_8abf5 ee) w_methodLink_RainCover_104 w_instanceMethod_java_util_ArrayList_size___I w_selects_java_util_ArrayList_java_util_ArrayList_size___I_java_util_ArrayList_size___I ⟨⟨by decide, by decide⟩, ⟨by decide, by decide⟩⟩ (Nat.le_of_ble_eq_true rfl) (fun v9 => ?_)
  refine a_icmp_ge 120 dX11_line_52 (by decide) (fun c10 => ?_) (fun c10 => ?_)
  · refine a_iload_n dX11_line_120 rfl 3 rfl ?_
    refine a_if_ne 129 dX11_line_121 (by decide) (fun c11 => ?_) (fun c11 => ?_)
    · refine a_iload dX11_line_124 4 rfl ?_
      refine a_goto 130 dX11_line_126 (by decide) ?_
      exact a_iret dX11_line_130 rfl rfl (by decide) (by decide)
    · refine a_iconst (v := (-1)) dX11_line_129 (by decide) ?_
      exact a_iret dX11_line_130 rfl rfl (by decide) (by decide)
  · refine a_iload dX11_line_55 5 rfl ?_
    refine a_iconst (v := 1) dX11_line_57 (by decide) ?_
    refine a_iadd dX11_line_58 ?_
    refine a_istore (lc2 := [(6, .int (x5 + 1)), (0, .ref x0), (1, .int x1), (2, .int x2), (3, .int x3), (4, .int x4), (5, .int x5)]) dX11_line_59 (by decide) rfl ?_
    refine a_pick (lc2 := [(0, .ref x0), (1, .int x1), (2, .int x2), (3, .int x3), (4, .int x4), (5, .int x5), (6, .int (x5 + 1))]) [1, 2, 3, 4, 5, 6, 0] rfl ?_
    exact t_X11_line_b61 h0 N K43 hK43 N h x0 x1 x2 x3 x4 x5 (x5 + 1)
set_option maxRecDepth 100000 in
set_option maxHeartbeats 4000000 in
theorem t_X11_line_b43 (h0 : AH) (N : Nat) : ∀ (n : Nat) (h : AH) (x0 : Nat) (x1 : Int32) (x2 : Int32) (x3 : Int32) (x4 : Int32) (x5 : Int32) , AO l g M_X11_line false h0 43 [(0, .ref x0), (1, .int x1), (2, .int x2), (3, .int x3), (4, .int x4), (5, .int x5)] [] h 0 0 rSi (f_X11_line_b43 N  n h x0 x1 x2 x3 x4 x5) := by
  intro n
  induction n with
  | zero => intro h x0 x1 x2 x3 x4 x5; exact a_eq rfl a_none
  | succ n ih => intro h x0 x1 x2 x3 x4 x5; exact a_eq rfl (t_X11_line_b43_body h0 N  (f_X11_line_b43 N  n) ih h x0 x1 x2 x3 x4 x5)
end
set_option maxRecDepth 100000 in
set_option maxHeartbeats 4000000 in
theorem c_X11_line (l : Launch) (g : GG) (h0 : AH) (N : Nat) (p0 : Nat) (p1 : Int32) (p2 : Int32) (p3 : Int32) : CN l g yX11_line M_X11_line false [.ref p0, .int p1, .int p2, .int p3] h0 rSi (f_X11_line h0 N p0 p1 p2 p3) := by
  refine CN.of (by decide) rfl (fun hh => by first | rfl | cases hh) (Nat.le_of_ble_eq_true rfl) ?_
  unfold f_X11_line
  refine a_gd (fun hkd => ?_)
  refine a_iload_n dX11_line_0 rfl 1 rfl ?_
  refine a_cS_Pi (as := [.int p1]) (st := []) dX11_line_1 (c_X11_isSeason l g h0 p1) rfl km_X11_isSeason (hm_X11_isSeason) w_methodLink_RainCover_100 w_static_RainCover_isSeason__I_Z ⟨⟨by decide, by decide⟩, ⟨by decide, by decide⟩⟩ (Nat.le_of_ble_eq_true rfl) (fun v1 => ?_)
  refine a_if_eq 16 dX11_line_4 (by decide) (fun c2 => ?_) (fun c2 => ?_)
  · refine a_iconst (v := (-1)) dX11_line_16 (by decide) ?_
    exact a_iret dX11_line_17 rfl rfl (by decide) (by decide)
  · refine a_iload_n dX11_line_7 rfl 3 rfl ?_
    refine a_iconst (v := 0) dX11_line_8 (by decide) ?_
    refine a_iconst (v := 2) dX11_line_9 (by decide) ?_
    refine a_cS_Pi (as := [.int p3, .int 0, .int 2]) (st := []) dX11_line_10 (c_X11_within l g h0 p3 0 2) rfl km_X11_within (hm_X11_within) w_methodLink_RainCover_120 w_static_RainCover_within__III_Z ⟨⟨by decide, by decide⟩, ⟨by decide, by decide⟩⟩ (Nat.le_of_ble_eq_true rfl) (fun v3 => ?_)
    refine a_if_ne 18 dX11_line_13 (by decide) (fun c4 => ?_) (fun c4 => ?_)
    · refine a_iconst (v := (-1)) dX11_line_16 (by decide) ?_
      exact a_iret dX11_line_17 rfl rfl (by decide) (by decide)
    · refine a_iload_n dX11_line_18 rfl 2 rfl ?_
      refine a_iconst (v := 0) dX11_line_19 (by decide) ?_
      refine a_sipush (v := 198) dX11_line_20 (by decide) ?_
      refine a_cS_Pi (as := [.int p2, .int 0, .int 198]) (st := []) dX11_line_23 (c_X11_within l g h0 p2 0 198) rfl km_X11_within (hm_X11_within) w_methodLink_RainCover_120 w_static_RainCover_within__III_Z ⟨⟨by decide, by decide⟩, ⟨by decide, by decide⟩⟩ (Nat.le_of_ble_eq_true rfl) (fun v5 => ?_)
      refine a_if_ne 32 dX11_line_26 (by decide) (fun c6 => ?_) (fun c6 => ?_)
      · refine a_bipush (v := (-2)) dX11_line_29 (by decide) ?_
        exact a_iret dX11_line_31 rfl rfl (by decide) (by decide)
      · refine a_aload_n dX11_line_32 rfl 0 rfl ?_
        refine a_iload_n dX11_line_33 rfl 1 rfl ?_
        refine a_cV_Sv (r := p0) (ci := 12) (as := [.int p1]) (st := []) dX11_line_34 (c_X11_gatherCoveredPays l g h0 N p0 p1) rfl km_X11_gatherCoveredPays (hm_X11_gatherCoveredPays) rfl (by decide) rfl (fun _ ee => g_X11_gatherCoveredPays ee) w_methodLink_RainCover_296 w_instanceMethod_RainCover_gatherCoveredPays__I_V w_selects_RainCover_RainCover_gatherCoveredPays__I_V_RainCover_gatherCoveredPays__I_V ⟨⟨by decide, by decide⟩, ⟨by decide, by decide⟩⟩ (Nat.le_of_ble_eq_true rfl) (fun q7 => ?_)
        refine a_iconst (v := 0) dX11_line_37 (by decide) ?_
        refine a_istore (lc2 := [(4, .int 0), (0, .ref p0), (1, .int p1), (2, .int p2), (3, .int p3)]) dX11_line_38 (by decide) rfl ?_
        refine a_iconst (v := 0) dX11_line_40 (by decide) ?_
        refine a_istore (lc2 := [(5, .int 0), (4, .int 0), (0, .ref p0), (1, .int p1), (2, .int p2), (3, .int p3)]) dX11_line_41 (by decide) rfl ?_
        refine a_pick (lc2 := [(0, .ref p0), (1, .int p1), (2, .int p2), (3, .int p3), (4, .int 0), (5, .int 0)]) [2, 3, 4, 5, 1, 0] rfl ?_
        exact t_X11_line_b43 h0 N N q7 p0 p1 p2 p3 0 0
theorem dX7_find_0 : decode cX7_find 0 = .ok (.iconst 0, 1) := by decide +kernel
theorem dX7_find_1 : decode cX7_find 1 = .ok (.istore_n 3, 1) := by decide +kernel
theorem dX7_find_2 : decode cX7_find 2 = .ok (.iload_n 3, 1) := by decide +kernel
theorem dX7_find_3 : decode cX7_find 3 = .ok (.aload_n 0, 1) := by decide +kernel
theorem dX7_find_4 : decode cX7_find 4 = .ok (.getfield 9, 3) := by decide +kernel
theorem dX7_find_7 : decode cX7_find 7 = .ok (.if_icmp .ge 31, 3) := by decide +kernel
theorem dX7_find_10 : decode cX7_find 10 = .ok (.aload_n 0, 1) := by decide +kernel
theorem dX7_find_11 : decode cX7_find 11 = .ok (.iload_n 3, 1) := by decide +kernel
theorem dX7_find_12 : decode cX7_find 12 = .ok (.iconst 0, 1) := by decide +kernel
theorem dX7_find_13 : decode cX7_find 13 = .ok (.invokevirtual 29, 3) := by decide +kernel
theorem dX7_find_16 : decode cX7_find 16 = .ok (.iload_n 1, 1) := by decide +kernel
theorem dX7_find_17 : decode cX7_find 17 = .ok (.if_icmp .ne 15, 3) := by decide +kernel
theorem dX7_find_20 : decode cX7_find 20 = .ok (.aload_n 0, 1) := by decide +kernel
theorem dX7_find_21 : decode cX7_find 21 = .ok (.iload_n 3, 1) := by decide +kernel
theorem dX7_find_22 : decode cX7_find 22 = .ok (.iconst 1, 1) := by decide +kernel
theorem dX7_find_23 : decode cX7_find 23 = .ok (.invokevirtual 29, 3) := by decide +kernel
theorem dX7_find_26 : decode cX7_find 26 = .ok (.iload_n 2, 1) := by decide +kernel
theorem dX7_find_27 : decode cX7_find 27 = .ok (.if_icmp .ne 5, 3) := by decide +kernel
theorem dX7_find_30 : decode cX7_find 30 = .ok (.iload_n 3, 1) := by decide +kernel
theorem dX7_find_31 : decode cX7_find 31 = .ok (.ireturn, 1) := by decide +kernel
theorem dX7_find_32 : decode cX7_find 32 = .ok (.iinc 3 1, 3) := by decide +kernel
theorem dX7_find_35 : decode cX7_find 35 = .ok (.goto (-33), 3) := by decide +kernel
theorem dX7_find_38 : decode cX7_find 38 = .ok (.iconst (-1), 1) := by decide +kernel
theorem dX7_find_39 : decode cX7_find 39 = .ok (.ireturn, 1) := by decide +kernel
abbrev M_X7_find : MI := (RX7, cX7_find, 4, (some .int), ({ frames := 1, cells := 0, slots := 0, locals := 22 } : Room), 0, 0, false)
def f_X7_find_b32 (h : AH) (N : Nat) (K2 : Nat → Int32 → Int32 → Int32 → Option Int32) (x0 : Nat) (x1 : Int32) (x2 : Int32) (x3 : Int32) : Option Int32 := K2 x0 x1 x2 (x3 + 1)
def f_X7_find_b2_body (h : AH) (N : Nat) (K2 : Nat → Int32 → Int32 → Int32 → Option Int32) (x0 : Nat) (x1 : Int32) (x2 : Int32) (x3 : Int32) : Option Int32 := (xgi h x0 8 3).bind fun v1 => (if v1 ≤ x3 then some (-1) else (f_X7_at h x0 x3 0).bind fun v3 => (if v3 = x1 then (f_X7_at h x0 x3 1).bind fun v5 => (if v5 = x2 then some x3 else f_X7_find_b32 h N K2 x0 x1 x2 x3) else f_X7_find_b32 h N K2 x0 x1 x2 x3))
def f_X7_find_b2 (h : AH) (N : Nat) : Nat → Nat → Int32 → Int32 → Int32 → Option Int32
  | 0, _, _, _, _ => none
  | n + 1, x0, x1, x2, x3 => f_X7_find_b2_body h N  (f_X7_find_b2 h N  n) x0 x1 x2 x3
def f_X7_find (h : AH) (N : Nat) (p0 : Nat) (p1 : Int32) (p2 : Int32) : Option Int32 := if kd h p0 = 8 + 1 then f_X7_find_b2 h N N p0 p1 p2 0 else none
theorem g_X7_find {h : AH} {N : Nat} {p0 : Nat} {p1 : Int32} {p2 : Int32} {x : Int32} (e : f_X7_find h N p0 p1 p2 = some x) : kd h p0 = 8 + 1 := by
  unfold f_X7_find at e
  by_cases hk : kd h p0 = 8 + 1
  · exact hk
  · rw [if_neg hk] at e
    cases e
theorem km_X7_find : KM yX7_find M_X7_find 2 := ⟨in_tb 840 (by decide +kernel) rfl, in_tb 7 (by decide +kernel) rfl, by decide +kernel, rfl, rfl⟩
theorem hm_X7_find : M_X7_find.2.2.2.2.2.1 = 0 ∧ M_X7_find.2.2.2.2.2.2.1 = 0 := ⟨rfl, rfl⟩
section
variable {l : Launch} {g : GG}
set_option maxRecDepth 100000 in
set_option maxHeartbeats 4000000 in
theorem t_X7_find_b32 (h : AH) (N : Nat) (K2 : Nat → Int32 → Int32 → Int32 → Option Int32) (hK2 : ∀ (z0 : Nat) (z1 : Int32) (z2 : Int32) (z3 : Int32), AO l g M_X7_find false h 2 [(0, .ref z0), (1, .int z1), (2, .int z2), (3, .int z3)] [] h 0 0 (rPi h) (K2 z0 z1 z2 z3)) (x0 : Nat) (x1 : Int32) (x2 : Int32) (x3 : Int32) : AO l g M_X7_find false h 32 [(0, .ref x0), (1, .int x1), (2, .int x2), (3, .int x3)] [] h 0 0 (rPi h) (f_X7_find_b32 h N K2 x0 x1 x2 x3) := by
  unfold f_X7_find_b32
  refine a_iinc (q := 3) (v := (x3 + 1)) (lc2 := [(3, .int (x3 + 1)), (0, .ref x0), (1, .int x1), (2, .int x2)]) dX7_find_32 rfl rfl (by decide) rfl ?_
  refine a_goto 2 dX7_find_35 (by decide) ?_
  refine a_pick (lc2 := [(0, .ref x0), (1, .int x1), (2, .int x2), (3, .int (x3 + 1))]) [1, 2, 3, 0] rfl ?_
  exact hK2 x0 x1 x2 (x3 + 1)
set_option maxRecDepth 100000 in
set_option maxHeartbeats 4000000 in
theorem t_X7_find_b2_body (h : AH) (N : Nat) (K2 : Nat → Int32 → Int32 → Int32 → Option Int32) (hK2 : ∀ (z0 : Nat) (z1 : Int32) (z2 : Int32) (z3 : Int32), AO l g M_X7_find false h 2 [(0, .ref z0), (1, .int z1), (2, .int z2), (3, .int z3)] [] h 0 0 (rPi h) (K2 z0 z1 z2 z3)) (x0 : Nat) (x1 : Int32) (x2 : Int32) (x3 : Int32) : AO l g M_X7_find false h 2 [(0, .ref x0), (1, .int x1), (2, .int x2), (3, .int x3)] [] h 0 0 (rPi h) (f_X7_find_b2_body h N K2 x0 x1 x2 x3) := by
  unfold f_X7_find_b2_body
  refine a_iload_n dX7_find_2 rfl 3 rfl ?_
  refine a_aload_n dX7_find_3 rfl 0 rfl ?_
  refine a_geti kc8 3 dX7_find_4 (by decide) rfl w_fieldLink_RainCover_Table_9 (fun v1 => ?_)
  refine a_icmp_ge 38 dX7_find_7 (by decide) (fun c2 => ?_) (fun c2 => ?_)
  · refine a_iconst (v := (-1)) dX7_find_38 (by decide) ?_
    exact a_iret dX7_find_39 rfl rfl (by decide) (by decide)
  · refine a_aload_n dX7_find_10 rfl 0 rfl ?_
    refine a_iload_n dX7_find_11 rfl 3 rfl ?_
    refine a_iconst (v := 0) dX7_find_12 (by decide) ?_
    refine a_cV_Pi (r := x0) (ci := 8) (as := [.int x3, .int 0]) (st := []) dX7_find_13 (c_X7_at l g h x0 x3 0) rfl km_X7_at (hm_X7_at) rfl (by decide) rfl (fun _ ee => g_X7_at ee) w_methodLink_RainCover_Table_29 w_instanceMethod_RainCover_Table_at__II_I w_selects_RainCover_Table_RainCover_Table_at__II_I_RainCover_Table_at__II_I ⟨⟨by decide, by decide⟩, ⟨by decide, by decide⟩⟩ (Nat.le_of_ble_eq_true rfl) (fun v3 => ?_)
    refine a_iload_n dX7_find_16 rfl 1 rfl ?_
    refine a_icmp_ne 32 dX7_find_17 (by decide) (fun c4 => ?_) (fun c4 => ?_)
    · refine a_aload_n dX7_find_20 rfl 0 rfl ?_
      refine a_iload_n dX7_find_21 rfl 3 rfl ?_
      refine a_iconst (v := 1) dX7_find_22 (by decide) ?_
      refine a_cV_Pi (r := x0) (ci := 8) (as := [.int x3, .int 1]) (st := []) dX7_find_23 (c_X7_at l g h x0 x3 1) rfl km_X7_at (hm_X7_at) rfl (by decide) rfl (fun _ ee => g_X7_at ee) w_methodLink_RainCover_Table_29 w_instanceMethod_RainCover_Table_at__II_I w_selects_RainCover_Table_RainCover_Table_at__II_I_RainCover_Table_at__II_I ⟨⟨by decide, by decide⟩, ⟨by decide, by decide⟩⟩ (Nat.le_of_ble_eq_true rfl) (fun v5 => ?_)
      refine a_iload_n dX7_find_26 rfl 2 rfl ?_
      refine a_icmp_ne 32 dX7_find_27 (by decide) (fun c6 => ?_) (fun c6 => ?_)
      · refine a_iload_n dX7_find_30 rfl 3 rfl ?_
        exact a_iret dX7_find_31 rfl rfl (by decide) (by decide)
      · exact t_X7_find_b32 h N K2 hK2 x0 x1 x2 x3
    · exact t_X7_find_b32 h N K2 hK2 x0 x1 x2 x3
set_option maxRecDepth 100000 in
set_option maxHeartbeats 4000000 in
theorem t_X7_find_b2 (h : AH) (N : Nat) : ∀ (n : Nat) (x0 : Nat) (x1 : Int32) (x2 : Int32) (x3 : Int32) , AO l g M_X7_find false h 2 [(0, .ref x0), (1, .int x1), (2, .int x2), (3, .int x3)] [] h 0 0 (rPi h) (f_X7_find_b2 h N  n x0 x1 x2 x3) := by
  intro n
  induction n with
  | zero => intro x0 x1 x2 x3; exact a_eq rfl a_none
  | succ n ih => intro x0 x1 x2 x3; exact a_eq rfl (t_X7_find_b2_body h N  (f_X7_find_b2 h N  n) ih x0 x1 x2 x3)
end
set_option maxRecDepth 100000 in
set_option maxHeartbeats 4000000 in
theorem c_X7_find (l : Launch) (g : GG) (h : AH) (N : Nat) (p0 : Nat) (p1 : Int32) (p2 : Int32) : CN l g yX7_find M_X7_find false [.ref p0, .int p1, .int p2] h ((rPi h)) (f_X7_find h N p0 p1 p2) := by
  refine CN.of (by decide) rfl (fun hh => by first | rfl | cases hh) (Nat.le_of_ble_eq_true rfl) ?_
  unfold f_X7_find
  refine a_gd (fun hkd => ?_)
  refine a_iconst (v := 0) dX7_find_0 (by decide) ?_
  refine a_istore_n (lc2 := [(3, .int 0), (0, .ref p0), (1, .int p1), (2, .int p2)]) dX7_find_1 rfl (by decide) rfl ?_
  refine a_pick (lc2 := [(0, .ref p0), (1, .int p1), (2, .int p2), (3, .int 0)]) [1, 2, 3, 0] rfl ?_
  exact t_X7_find_b2 h N N p0 p1 p2 0
theorem dX11_look_0 : decode cX11_look 0 = .ok (.aload_n 0, 1) := by decide +kernel
theorem dX11_look_1 : decode cX11_look 1 = .ok (.iload_n 1, 1) := by decide +kernel
theorem dX11_look_2 : decode cX11_look 2 = .ok (.invokevirtual 254, 3) := by decide +kernel
theorem dX11_look_5 : decode cX11_look 5 = .ok (.ifCond .eq 10, 3) := by decide +kernel
theorem dX11_look_8 : decode cX11_look 8 = .ok (.iload_n 2, 1) := by decide +kernel
theorem dX11_look_9 : decode cX11_look 9 = .ok (.invokestatic 100, 3) := by decide +kernel
theorem dX11_look_12 : decode cX11_look 12 = .ok (.ifCond .ne 5, 3) := by decide +kernel
theorem dX11_look_15 : decode cX11_look 15 = .ok (.iconst (-1), 1) := by decide +kernel
theorem dX11_look_16 : decode cX11_look 16 = .ok (.ireturn, 1) := by decide +kernel
theorem dX11_look_17 : decode cX11_look 17 = .ok (.iload_n 3, 1) := by decide +kernel
theorem dX11_look_18 : decode cX11_look 18 = .ok (.iconst 0, 1) := by decide +kernel
theorem dX11_look_19 : decode cX11_look 19 = .ok (.sipush 9999, 3) := by decide +kernel
theorem dX11_look_22 : decode cX11_look 22 = .ok (.invokestatic 120, 3) := by decide +kernel
theorem dX11_look_25 : decode cX11_look 25 = .ok (.ifCond .eq 15, 3) := by decide +kernel
theorem dX11_look_28 : decode cX11_look 28 = .ok (.iload 4, 2) := by decide +kernel
theorem dX11_look_30 : decode cX11_look 30 = .ok (.iconst 0, 1) := by decide +kernel
theorem dX11_look_31 : decode cX11_look 31 = .ok (.sipush 9999, 3) := by decide +kernel
theorem dX11_look_34 : decode cX11_look 34 = .ok (.invokestatic 120, 3) := by decide +kernel
theorem dX11_look_37 : decode cX11_look 37 = .ok (.ifCond .ne 6, 3) := by decide +kernel
theorem dX11_look_40 : decode cX11_look 40 = .ok (.bipush (-2), 2) := by decide +kernel
theorem dX11_look_42 : decode cX11_look 42 = .ok (.ireturn, 1) := by decide +kernel
theorem dX11_look_43 : decode cX11_look 43 = .ok (.aload_n 0, 1) := by decide +kernel
theorem dX11_look_44 : decode cX11_look 44 = .ok (.getfield 57, 3) := by decide +kernel
theorem dX11_look_47 : decode cX11_look 47 = .ok (.iload_n 1, 1) := by decide +kernel
theorem dX11_look_48 : decode cX11_look 48 = .ok (.iload_n 2, 1) := by decide +kernel
theorem dX11_look_49 : decode cX11_look 49 = .ok (.invokevirtual 324, 3) := by decide +kernel
theorem dX11_look_52 : decode cX11_look 52 = .ok (.istore 5, 2) := by decide +kernel
theorem dX11_look_54 : decode cX11_look 54 = .ok (.iload 5, 2) := by decide +kernel
theorem dX11_look_56 : decode cX11_look 56 = .ok (.iconst (-1), 1) := by decide +kernel
theorem dX11_look_57 : decode cX11_look 57 = .ok (.if_icmp .ne 16, 3) := by decide +kernel
theorem dX11_look_60 : decode cX11_look 60 = .ok (.aload_n 0, 1) := by decide +kernel
theorem dX11_look_61 : decode cX11_look 61 = .ok (.getfield 57, 3) := by decide +kernel
theorem dX11_look_64 : decode cX11_look 64 = .ok (.invokevirtual 261, 3) := by decide +kernel
theorem dX11_look_67 : decode cX11_look 67 = .ok (.ifCond .eq 6, 3) := by decide +kernel
theorem dX11_look_70 : decode cX11_look 70 = .ok (.bipush (-4), 2) := by decide +kernel
theorem dX11_look_72 : decode cX11_look 72 = .ok (.ireturn, 1) := by decide +kernel
theorem dX11_look_73 : decode cX11_look 73 = .ok (.iload 5, 2) := by decide +kernel
theorem dX11_look_75 : decode cX11_look 75 = .ok (.iconst (-1), 1) := by decide +kernel
theorem dX11_look_76 : decode cX11_look 76 = .ok (.if_icmp .ne 19, 3) := by decide +kernel
theorem dX11_look_79 : decode cX11_look 79 = .ok (.aload_n 0, 1) := by decide +kernel
theorem dX11_look_80 : decode cX11_look 80 = .ok (.getfield 57, 3) := by decide +kernel
theorem dX11_look_83 : decode cX11_look 83 = .ok (.iload_n 1, 1) := by decide +kernel
theorem dX11_look_84 : decode cX11_look 84 = .ok (.iload_n 2, 1) := by decide +kernel
theorem dX11_look_85 : decode cX11_look 85 = .ok (.iload_n 3, 1) := by decide +kernel
theorem dX11_look_86 : decode cX11_look 86 = .ok (.iload 4, 2) := by decide +kernel
theorem dX11_look_88 : decode cX11_look 88 = .ok (.invokevirtual 264, 3) := by decide +kernel
theorem dX11_look_91 : decode cX11_look 91 = .ok (.pop, 1) := by decide +kernel
theorem dX11_look_92 : decode cX11_look 92 = .ok (.goto 26, 3) := by decide +kernel
theorem dX11_look_95 : decode cX11_look 95 = .ok (.aload_n 0, 1) := by decide +kernel
theorem dX11_look_96 : decode cX11_look 96 = .ok (.getfield 57, 3) := by decide +kernel
theorem dX11_look_99 : decode cX11_look 99 = .ok (.iload 5, 2) := by decide +kernel
theorem dX11_look_101 : decode cX11_look 101 = .ok (.iconst 2, 1) := by decide +kernel
theorem dX11_look_102 : decode cX11_look 102 = .ok (.iload_n 3, 1) := by decide +kernel
theorem dX11_look_103 : decode cX11_look 103 = .ok (.invokevirtual 269, 3) := by decide +kernel
theorem dX11_look_106 : decode cX11_look 106 = .ok (.aload_n 0, 1) := by decide +kernel
theorem dX11_look_107 : decode cX11_look 107 = .ok (.getfield 57, 3) := by decide +kernel
theorem dX11_look_110 : decode cX11_look 110 = .ok (.iload 5, 2) := by decide +kernel
theorem dX11_look_112 : decode cX11_look 112 = .ok (.iconst 3, 1) := by decide +kernel
theorem dX11_look_113 : decode cX11_look 113 = .ok (.iload 4, 2) := by decide +kernel
theorem dX11_look_115 : decode cX11_look 115 = .ok (.invokevirtual 269, 3) := by decide +kernel
theorem dX11_look_118 : decode cX11_look 118 = .ok (.aload_n 0, 1) := by decide +kernel
theorem dX11_look_119 : decode cX11_look 119 = .ok (.getfield 57, 3) := by decide +kernel
theorem dX11_look_122 : decode cX11_look 122 = .ok (.getfield 306, 3) := by decide +kernel
theorem dX11_look_125 : decode cX11_look 125 = .ok (.ireturn, 1) := by decide +kernel
abbrev M_X11_look : MI := (RX11, cX11_look, 6, (some .int), ({ frames := 2, cells := 0, slots := 0, locals := 45 } : Room), 0, 0, false)
def f_X11_look_b118 (N : Nat) (h : AH) (x0 : Nat) : Option (Int32 × AH) := (xgr h x0 12 9).bind fun v22 => (xgi h v22 8 3).bind fun v23 => some (v23, h)
def f_X11_look_b73 (N : Nat) (h : AH) (x0 : Nat) (x1 : Int32) (x2 : Int32) (x3 : Int32) (x4 : Int32) (x5 : Int32) : Option (Int32 × AH) := (if x5 = (-1) then (xgr h x0 12 9).bind fun v16 => (f_X7_add h v16 x1 x2 x3 x4).bind fun q17 => f_X11_look_b118 N q17.2 x0 else (xgr h x0 12 9).bind fun v18 => (f_X7_put h v18 x5 2 x3).bind fun q19 => (xgr q19 x0 12 9).bind fun v20 => (f_X7_put q19 v20 x5 3 x4).bind fun q21 => f_X11_look_b118 N q21 x0)
def f_X11_look (h0 : AH) (N : Nat) (p0 : Nat) (p1 : Int32) (p2 : Int32) (p3 : Int32) (p4 : Int32) : Option (Int32 × AH) := if kd h0 p0 = 12 + 1 then (f_X11_isFarm h0 p0 p1).bind fun v1 => (if v1 = 0 then some ((-1), h0) else (f_X11_isSeason h0 p2).bind fun v3 => (if v3 = 0 then some ((-1), h0) else (f_X11_within h0 p3 0 9999).bind fun v5 => (if v5 = 0 then some ((-2), h0) else (f_X11_within h0 p4 0 9999).bind fun v7 => (if v7 = 0 then some ((-2), h0) else (xgr h0 p0 12 9).bind fun v9 => (f_X7_find h0 N v9 p1 p2).bind fun v10 => (if v10 = (-1) then (xgr h0 p0 12 9).bind fun v12 => (f_X7_isFull h0 v12).bind fun v13 => (if v13 = 0 then f_X11_look_b73 N h0 p0 p1 p2 p3 p4 v10 else some ((-4), h0)) else f_X11_look_b73 N h0 p0 p1 p2 p3 p4 v10))))) else none
theorem g_X11_look {h0 : AH} {N : Nat} {p0 : Nat} {p1 : Int32} {p2 : Int32} {p3 : Int32} {p4 : Int32} {x : (Int32 × AH)} (e : f_X11_look h0 N p0 p1 p2 p3 p4 = some x) : kd h0 p0 = 12 + 1 := by
  unfold f_X11_look at e
  by_cases hk : kd h0 p0 = 12 + 1
  · exact hk
  · rw [if_neg hk] at e
    cases e
theorem km_X11_look : KM yX11_look M_X11_look 4 := ⟨in_tb 836 (by decide +kernel) rfl, in_tb 1 (by decide +kernel) rfl, by decide +kernel, rfl, rfl⟩
theorem hm_X11_look : M_X11_look.2.2.2.2.2.1 = 0 ∧ M_X11_look.2.2.2.2.2.2.1 = 0 := ⟨rfl, rfl⟩
section
variable {l : Launch} {g : GG}
set_option maxRecDepth 100000 in
set_option maxHeartbeats 4000000 in
theorem t_X11_look_b118 (h0 : AH) (N : Nat) (h : AH) (x0 : Nat) : AO l g M_X11_look false h0 118 [(0, .ref x0)] [] h 0 0 rSi (f_X11_look_b118 N  h x0) := by
  unfold f_X11_look_b118
  refine a_aload_n dX11_look_118 rfl 0 rfl ?_
  refine a_getr kc12 9 dX11_look_119 (by decide) rfl w_fieldLink_RainCover_57 (fun v22 => ?_)
  refine a_geti kc8 3 dX11_look_122 (by decide) rfl w_fieldLink_RainCover_306 (fun v23 => ?_)
  exact a_iret dX11_look_125 rfl rfl (by decide) (by decide)
set_option maxRecDepth 100000 in
set_option maxHeartbeats 4000000 in
theorem t_X11_look_b73 (h0 : AH) (N : Nat) (h : AH) (x0 : Nat) (x1 : Int32) (x2 : Int32) (x3 : Int32) (x4 : Int32) (x5 : Int32) : AO l g M_X11_look false h0 73 [(0, .ref x0), (1, .int x1), (2, .int x2), (3, .int x3), (4, .int x4), (5, .int x5)] [] h 0 0 rSi (f_X11_look_b73 N  h x0 x1 x2 x3 x4 x5) := by
  unfold f_X11_look_b73
  refine a_iload dX11_look_73 5 rfl ?_
  refine a_iconst (v := (-1)) dX11_look_75 (by decide) ?_
  refine a_icmp_ne 95 dX11_look_76 (by decide) (fun c15 => ?_) (fun c15 => ?_)
  · refine a_aload_n dX11_look_79 rfl 0 rfl ?_
    refine a_getr kc12 9 dX11_look_80 (by decide) rfl w_fieldLink_RainCover_57 (fun v16 => ?_)
    refine a_iload_n dX11_look_83 rfl 1 rfl ?_
    refine a_iload_n dX11_look_84 rfl 2 rfl ?_
    refine a_iload_n dX11_look_85 rfl 3 rfl ?_
    refine a_iload dX11_look_86 4 rfl ?_
    refine a_cV_Si (r := v16) (ci := 8) (as := [.int x1, .int x2, .int x3, .int x4]) (st := []) dX11_look_88 (c_X7_add l g h v16 x1 x2 x3 x4) rfl km_X7_add (hm_X7_add) rfl (by decide) rfl (fun _ ee => g_X7_add ee) w_methodLink_RainCover_264 w_instanceMethod_RainCover_Table_add__IIII_I w_selects_RainCover_Table_RainCover_Table_add__IIII_I_RainCover_Table_add__IIII_I ⟨⟨by decide, by decide⟩, ⟨by decide, by decide⟩⟩ (Nat.le_of_ble_eq_true rfl) (fun q17 => ?_)
    refine a_pop dX11_look_91 rfl ?_
    refine a_goto 118 dX11_look_92 (by decide) ?_
    refine a_pick (lc2 := [(0, .ref x0)]) [0] rfl ?_
    exact t_X11_look_b118 h0 N q17.2 x0
  · refine a_aload_n dX11_look_95 rfl 0 rfl ?_
    refine a_getr kc12 9 dX11_look_96 (by decide) rfl w_fieldLink_RainCover_57 (fun v18 => ?_)
    refine a_iload dX11_look_99 5 rfl ?_
    refine a_iconst (v := 2) dX11_look_101 (by decide) ?_
    refine a_iload_n dX11_look_102 rfl 3 rfl ?_
    refine a_cV_Sv (r := v18) (ci := 8) (as := [.int x5, .int 2, .int x3]) (st := []) dX11_look_103 (c_X7_put l g h v18 x5 2 x3) rfl km_X7_put (hm_X7_put) rfl (by decide) rfl (fun _ ee => g_X7_put ee) w_methodLink_RainCover_269 w_instanceMethod_RainCover_Table_put__III_V w_selects_RainCover_Table_RainCover_Table_put__III_V_RainCover_Table_put__III_V ⟨⟨by decide, by decide⟩, ⟨by decide, by decide⟩⟩ (Nat.le_of_ble_eq_true rfl) (fun q19 => ?_)
    refine a_aload_n dX11_look_106 rfl 0 rfl ?_
    refine a_getr kc12 9 dX11_look_107 (by decide) rfl w_fieldLink_RainCover_57 (fun v20 => ?_)
    refine a_iload dX11_look_110 5 rfl ?_
    refine a_iconst (v := 3) dX11_look_112 (by decide) ?_
    refine a_iload dX11_look_113 4 rfl ?_
    refine a_cV_Sv (r := v20) (ci := 8) (as := [.int x5, .int 3, .int x4]) (st := []) dX11_look_115 (c_X7_put l g q19 v20 x5 3 x4) rfl km_X7_put (hm_X7_put) rfl (by decide) rfl (fun _ ee => g_X7_put ee) w_methodLink_RainCover_269 w_instanceMethod_RainCover_Table_put__III_V w_selects_RainCover_Table_RainCover_Table_put__III_V_RainCover_Table_put__III_V ⟨⟨by decide, by decide⟩, ⟨by decide, by decide⟩⟩ (Nat.le_of_ble_eq_true rfl) (fun q21 => ?_)
    refine a_pick (lc2 := [(0, .ref x0)]) [0] rfl ?_
    exact t_X11_look_b118 h0 N q21 x0
end
set_option maxRecDepth 100000 in
set_option maxHeartbeats 4000000 in
theorem c_X11_look (l : Launch) (g : GG) (h0 : AH) (N : Nat) (p0 : Nat) (p1 : Int32) (p2 : Int32) (p3 : Int32) (p4 : Int32) : CN l g yX11_look M_X11_look false [.ref p0, .int p1, .int p2, .int p3, .int p4] h0 rSi (f_X11_look h0 N p0 p1 p2 p3 p4) := by
  refine CN.of (by decide) rfl (fun hh => by first | rfl | cases hh) (Nat.le_of_ble_eq_true rfl) ?_
  unfold f_X11_look
  refine a_gd (fun hkd => ?_)
  refine a_aload_n dX11_look_0 rfl 0 rfl ?_
  refine a_iload_n dX11_look_1 rfl 1 rfl ?_
  refine a_cV_Pi (r := p0) (ci := 12) (as := [.int p1]) (st := []) dX11_look_2 (c_X11_isFarm l g h0 p0 p1) rfl km_X11_isFarm (hm_X11_isFarm) rfl (by decide) rfl (fun _ ee => g_X11_isFarm ee) w_methodLink_RainCover_254 w_instanceMethod_RainCover_isFarm__I_Z w_selects_RainCover_RainCover_isFarm__I_Z_RainCover_isFarm__I_Z ⟨⟨by decide, by decide⟩, ⟨by decide, by decide⟩⟩ (Nat.le_of_ble_eq_true rfl) (fun v1 => ?_)
  refine a_if_eq 15 dX11_look_5 (by decide) (fun c2 => ?_) (fun c2 => ?_)
  · refine a_iconst (v := (-1)) dX11_look_15 (by decide) ?_
    exact a_iret dX11_look_16 rfl rfl (by decide) (by decide)
  · refine a_iload_n dX11_look_8 rfl 2 rfl ?_
    refine a_cS_Pi (as := [.int p2]) (st := []) dX11_look_9 (c_X11_isSeason l g h0 p2) rfl km_X11_isSeason (hm_X11_isSeason) w_methodLink_RainCover_100 w_static_RainCover_isSeason__I_Z ⟨⟨by decide, by decide⟩, ⟨by decide, by decide⟩⟩ (Nat.le_of_ble_eq_true rfl) (fun v3 => ?_)
    refine a_if_ne 17 dX11_look_12 (by decide) (fun c4 => ?_) (fun c4 => ?_)
    · refine a_iconst (v := (-1)) dX11_look_15 (by decide) ?_
      exact a_iret dX11_look_16 rfl rfl (by decide) (by decide)
    · refine a_iload_n dX11_look_17 rfl 3 rfl ?_
      refine a_iconst (v := 0) dX11_look_18 (by decide) ?_
      refine a_sipush (v := 9999) dX11_look_19 (by decide) ?_
      refine a_cS_Pi (as := [.int p3, .int 0, .int 9999]) (st := []) dX11_look_22 (c_X11_within l g h0 p3 0 9999) rfl km_X11_within (hm_X11_within) w_methodLink_RainCover_120 w_static_RainCover_within__III_Z ⟨⟨by decide, by decide⟩, ⟨by decide, by decide⟩⟩ (Nat.le_of_ble_eq_true rfl) (fun v5 => ?_)
      refine a_if_eq 40 dX11_look_25 (by decide) (fun c6 => ?_) (fun c6 => ?_)
      · refine a_bipush (v := (-2)) dX11_look_40 (by decide) ?_
        exact a_iret dX11_look_42 rfl rfl (by decide) (by decide)
      · refine a_iload dX11_look_28 4 rfl ?_
        refine a_iconst (v := 0) dX11_look_30 (by decide) ?_
        refine a_sipush (v := 9999) dX11_look_31 (by decide) ?_
        refine a_cS_Pi (as := [.int p4, .int 0, .int 9999]) (st := []) dX11_look_34 (c_X11_within l g h0 p4 0 9999) rfl km_X11_within (hm_X11_within) w_methodLink_RainCover_120 w_static_RainCover_within__III_Z ⟨⟨by decide, by decide⟩, ⟨by decide, by decide⟩⟩ (Nat.le_of_ble_eq_true rfl) (fun v7 => ?_)
        refine a_if_ne 43 dX11_look_37 (by decide) (fun c8 => ?_) (fun c8 => ?_)
        · refine a_bipush (v := (-2)) dX11_look_40 (by decide) ?_
          exact a_iret dX11_look_42 rfl rfl (by decide) (by decide)
        · refine a_aload_n dX11_look_43 rfl 0 rfl ?_
          refine a_getr kc12 9 dX11_look_44 (by decide) rfl w_fieldLink_RainCover_57 (fun v9 => ?_)
          refine a_iload_n dX11_look_47 rfl 1 rfl ?_
          refine a_iload_n dX11_look_48 rfl 2 rfl ?_
          refine a_cV_Pi (r := v9) (ci := 8) (as := [.int p1, .int p2]) (st := []) dX11_look_49 (c_X7_find l g h0 N v9 p1 p2) rfl km_X7_find (hm_X7_find) rfl (by decide) rfl (fun _ ee => g_X7_find ee) w_methodLink_RainCover_324 w_instanceMethod_RainCover_Table_find__II_I w_selects_RainCover_Table_RainCover_Table_find__II_I_RainCover_Table_find__II_I ⟨⟨by decide, by decide⟩, ⟨by decide, by decide⟩⟩ (Nat.le_of_ble_eq_true rfl) (fun v10 => ?_)
          refine a_istore (lc2 := [(5, .int v10), (0, .ref p0), (1, .int p1), (2, .int p2), (3, .int p3), (4, .int p4)]) dX11_look_52 (by decide) rfl ?_
          refine a_iload dX11_look_54 0 rfl ?_
          refine a_iconst (v := (-1)) dX11_look_56 (by decide) ?_
          refine a_icmp_ne 73 dX11_look_57 (by decide) (fun c11 => ?_) (fun c11 => ?_)
          · refine a_aload_n dX11_look_60 rfl 1 rfl ?_
            refine a_getr kc12 9 dX11_look_61 (by decide) rfl w_fieldLink_RainCover_57 (fun v12 => ?_)
            refine a_cV_Pi (r := v12) (ci := 8) (as := []) (st := []) dX11_look_64 (c_X7_isFull l g h0 v12) rfl km_X7_isFull (hm_X7_isFull) rfl (by decide) rfl (fun _ ee => g_X7_isFull ee) w_methodLink_RainCover_261 w_instanceMethod_RainCover_Table_isFull___Z w_selects_RainCover_Table_RainCover_Table_isFull___Z_RainCover_Table_isFull___Z ⟨⟨by decide, by decide⟩, ⟨by decide, by decide⟩⟩ (Nat.le_of_ble_eq_true rfl) (fun v13 => ?_)
            refine a_if_eq 73 dX11_look_67 (by decide) (fun c14 => ?_) (fun c14 => ?_)
            · refine a_pick (lc2 := [(0, .ref p0), (1, .int p1), (2, .int p2), (3, .int p3), (4, .int p4), (5, .int v10)]) [1, 2, 3, 4, 5, 0] rfl ?_
              exact t_X11_look_b73 h0 N h0 p0 p1 p2 p3 p4 v10
            · refine a_bipush (v := (-4)) dX11_look_70 (by decide) ?_
              exact a_iret dX11_look_72 rfl rfl (by decide) (by decide)
          · refine a_pick (lc2 := [(0, .ref p0), (1, .int p1), (2, .int p2), (3, .int p3), (4, .int p4), (5, .int v10)]) [1, 2, 3, 4, 5, 0] rfl ?_
            exact t_X11_look_b73 h0 N h0 p0 p1 p2 p3 p4 v10
theorem dX11_bandOf_0 : decode cX11_bandOf 0 = .ok (.aload_n 0, 1) := by decide +kernel
theorem dX11_bandOf_1 : decode cX11_bandOf 1 = .ok (.aload_n 0, 1) := by decide +kernel
theorem dX11_bandOf_2 : decode cX11_bandOf 2 = .ok (.getfield 21, 3) := by decide +kernel
theorem dX11_bandOf_5 : decode cX11_bandOf 5 = .ok (.aload_n 0, 1) := by decide +kernel
theorem dX11_bandOf_6 : decode cX11_bandOf 6 = .ok (.getfield 57, 3) := by decide +kernel
theorem dX11_bandOf_9 : decode cX11_bandOf 9 = .ok (.iload_n 1, 1) := by decide +kernel
theorem dX11_bandOf_10 : decode cX11_bandOf 10 = .ok (.iconst 0, 1) := by decide +kernel
theorem dX11_bandOf_11 : decode cX11_bandOf 11 = .ok (.invokevirtual 266, 3) := by decide +kernel
theorem dX11_bandOf_14 : decode cX11_bandOf 14 = .ok (.invokevirtual 124, 3) := by decide +kernel
theorem dX11_bandOf_17 : decode cX11_bandOf 17 = .ok (.checkcast 233, 3) := by decide +kernel
theorem dX11_bandOf_20 : decode cX11_bandOf 20 = .ok (.aload_n 0, 1) := by decide +kernel
theorem dX11_bandOf_21 : decode cX11_bandOf 21 = .ok (.getfield 57, 3) := by decide +kernel
theorem dX11_bandOf_24 : decode cX11_bandOf 24 = .ok (.iload_n 1, 1) := by decide +kernel
theorem dX11_bandOf_25 : decode cX11_bandOf 25 = .ok (.iconst 1, 1) := by decide +kernel
theorem dX11_bandOf_26 : decode cX11_bandOf 26 = .ok (.invokevirtual 266, 3) := by decide +kernel
theorem dX11_bandOf_29 : decode cX11_bandOf 29 = .ok (.invokevirtual 279, 3) := by decide +kernel
theorem dX11_bandOf_32 : decode cX11_bandOf 32 = .ok (.istore_n 2, 1) := by decide +kernel
theorem dX11_bandOf_33 : decode cX11_bandOf 33 = .ok (.iload_n 2, 1) := by decide +kernel
theorem dX11_bandOf_34 : decode cX11_bandOf 34 = .ok (.iconst (-1), 1) := by decide +kernel
theorem dX11_bandOf_35 : decode cX11_bandOf 35 = .ok (.if_icmp .ne 7, 3) := by decide +kernel
theorem dX11_bandOf_38 : decode cX11_bandOf 38 = .ok (.iconst (-1), 1) := by decide +kernel
theorem dX11_bandOf_39 : decode cX11_bandOf 39 = .ok (.goto 11, 3) := by decide +kernel
theorem dX11_bandOf_42 : decode cX11_bandOf 42 = .ok (.iload_n 2, 1) := by decide +kernel
theorem dX11_bandOf_43 : decode cX11_bandOf 43 = .ok (.bipush 20, 2) := by decide +kernel
theorem dX11_bandOf_45 : decode cX11_bandOf 45 = .ok (.idiv, 1) := by decide +kernel
theorem dX11_bandOf_46 : decode cX11_bandOf 46 = .ok (.iconst 3, 1) := by decide +kernel
theorem dX11_bandOf_47 : decode cX11_bandOf 47 = .ok (.invokestatic 340, 3) := by decide +kernel
theorem dX11_bandOf_50 : decode cX11_bandOf 50 = .ok (.ireturn, 1) := by decide +kernel
abbrev M_X11_bandOf : MI := (RX11, cX11_bandOf, 3, (some .int), ({ frames := 5, cells := 0, slots := 0, locals := 115 } : Room), 0, 0, false)
def f_X11_bandOf (h : AH) (N : Nat) (p0 : Nat) (p1 : Int32) : Option Int32 := if kd h p0 = 12 + 1 then (xgr h p0 12 2).bind fun v1 => (xgr h p0 12 9).bind fun v2 => (f_X7_at h v2 p1 0).bind fun v3 => (f_Jx4a65c_get_915e3 h v1 v3).bind fun v4 => (xcc h v4 3).bind fun _ => (xgr h p0 12 9).bind fun v5 => (f_X7_at h v5 p1 1).bind fun v6 => (f_X11_distanceToGauge h N p0 v4 v6).bind fun v7 => (if v7 = (-1) then some (-1) else (if 20 = 0 then none else some (if 3 < (v7 / 20) then 3 else (v7 / 20)))) else none
theorem g_X11_bandOf {h : AH} {N : Nat} {p0 : Nat} {p1 : Int32} {x : Int32} (e : f_X11_bandOf h N p0 p1 = some x) : kd h p0 = 12 + 1 := by
  unfold f_X11_bandOf at e
  by_cases hk : kd h p0 = 12 + 1
  · exact hk
  · rw [if_neg hk] at e
    cases e
theorem km_X11_bandOf : KM yX11_bandOf M_X11_bandOf 1 := ⟨in_tb 850 (by decide +kernel) rfl, in_tb 1 (by decide +kernel) rfl, by decide +kernel, rfl, rfl⟩
theorem hm_X11_bandOf : M_X11_bandOf.2.2.2.2.2.1 = 0 ∧ M_X11_bandOf.2.2.2.2.2.2.1 = 0 := ⟨rfl, rfl⟩
section
variable {l : Launch} {g : GG}
end
set_option maxRecDepth 100000 in
set_option maxHeartbeats 4000000 in
theorem c_X11_bandOf (l : Launch) (g : GG) (h : AH) (N : Nat) (p0 : Nat) (p1 : Int32) : CN l g yX11_bandOf M_X11_bandOf false [.ref p0, .int p1] h ((rPi h)) (f_X11_bandOf h N p0 p1) := by
  refine CN.of (by decide) rfl (fun hh => by first | rfl | cases hh) (Nat.le_of_ble_eq_true rfl) ?_
  unfold f_X11_bandOf
  refine a_gd (fun hkd => ?_)
  refine a_aload_n dX11_bandOf_0 rfl 0 rfl ?_
  refine a_aload_n dX11_bandOf_1 rfl 0 rfl ?_
  refine a_getr kc12 2 dX11_bandOf_2 (by decide) rfl w_fieldLink_RainCover_21 (fun v1 => ?_)
  refine a_aload_n dX11_bandOf_5 rfl 0 rfl ?_
  refine a_getr kc12 9 dX11_bandOf_6 (by decide) rfl w_fieldLink_RainCover_57 (fun v2 => ?_)
  refine a_iload_n dX11_bandOf_9 rfl 1 rfl ?_
  refine a_iconst (v := 0) dX11_bandOf_10 (by decide) ?_
  refine a_cV_Pi (r := v2) (ci := 8) (as := [.int p1, .int 0]) (st := [.ref v1, .ref p0]) dX11_bandOf_11 (c_X7_at l g h v2 p1 0) rfl km_X7_at (hm_X7_at) rfl (by decide) rfl (fun _ ee => g_X7_at ee) w_methodLink_RainCover_266 w_instanceMethod_RainCover_Table_at__II_I w_selects_RainCover_Table_RainCover_Table_at__II_I_RainCover_Table_at__II_I ⟨⟨by decide, by decide⟩, ⟨by decide, by decide⟩⟩ (Nat.le_of_ble_eq_true rfl) (fun v3 => ?_)
  refine a_cV_Pr (r := v1) (ci := 0) (as := [.int v3]) (st := [.ref p0]) dX11_bandOf_14 (c_Jx4a65c_get_915e3 l g h v1 v3) rfl km_Jx4a65c_get_915e3 (hm_Jx4a65c_get_915e3) rfl (by decide) rfl (fun _ ee => g_Jx4a65c_get_915e3 ee) w_methodLink_RainCover_124 w_instanceMethod_java_util_ArrayList_get__I_Ljava_lang_Object_ w_selects_java_util_ArrayList_java_util_ArrayList_get__I_Ljava_lang_Object__java_util_ArrayList_get__I_Ljava_lang_Object_ ⟨⟨by decide, by decide⟩, ⟨by decide, by decide⟩⟩ (Nat.le_of_ble_eq_true rfl) (fun v4 => ?_)
  refine a_cast kc3 dX11_bandOf_17 w_classLink_RainCover_233 ?_
  refine a_aload_n dX11_bandOf_20 rfl 0 rfl ?_
  refine a_getr kc12 9 dX11_bandOf_21 (by decide) rfl w_fieldLink_RainCover_57 (fun v5 => ?_)
  refine a_iload_n dX11_bandOf_24 rfl 1 rfl ?_
  refine a_iconst (v := 1) dX11_bandOf_25 (by decide) ?_
  refine a_cV_Pi (r := v5) (ci := 8) (as := [.int p1, .int 1]) (st := [.ref v4, .ref p0]) dX11_bandOf_26 (c_X7_at l g h v5 p1 1) rfl km_X7_at (hm_X7_at) rfl (by decide) rfl (fun _ ee => g_X7_at ee) w_methodLink_RainCover_266 w_instanceMethod_RainCover_Table_at__II_I w_selects_RainCover_Table_RainCover_Table_at__II_I_RainCover_Table_at__II_I ⟨⟨by decide, by decide⟩, ⟨by decide, by decide⟩⟩ (Nat.le_of_ble_eq_true rfl) (fun v6 => ?_)
  refine a_cV_Pi (r := p0) (ci := 12) (as := [.ref v4, .int v6]) (st := []) dX11_bandOf_29 (c_X11_distanceToGauge l g h N p0 v4 v6) rfl km_X11_distanceToGauge (hm_X11_distanceToGauge) rfl (by decide) rfl (fun _ ee => g_X11_distanceToGauge ee) w_methodLink_RainCover_279 w_instanceMethod_RainCover_distanceToGauge__LRainCover_Farm_I_I w_selects_RainCover_RainCover_distanceToGauge__LRainCover_Farm_I_I_RainCover_distanceToGauge__LRainCover_Farm_I_I ⟨⟨by decide, by decide⟩, ⟨by decide, by decide⟩⟩ (Nat.le_of_ble_eq_true rfl) (fun v7 => ?_)
  refine a_istore_n (lc2 := [(2, .int v7), (0, .ref p0), (1, .int p1)]) dX11_bandOf_32 rfl (by decide) rfl ?_
  refine a_iload_n dX11_bandOf_33 rfl 0 rfl ?_
  refine a_iconst (v := (-1)) dX11_bandOf_34 (by decide) ?_
  refine a_icmp_ne 42 dX11_bandOf_35 (by decide) (fun c8 => ?_) (fun c8 => ?_)
  · refine a_iconst (v := (-1)) dX11_bandOf_38 (by decide) ?_
    refine a_goto 50 dX11_bandOf_39 (by decide) ?_
    exact a_iret dX11_bandOf_50 rfl rfl (by decide) (by decide)
  · refine a_iload_n dX11_bandOf_42 rfl 0 rfl ?_
    refine a_bipush (v := 20) dX11_bandOf_43 (by decide) ?_
    refine a_idiv dX11_bandOf_45 (fun c9 => ?_)
    refine a_iconst (v := 3) dX11_bandOf_46 (by decide) ?_
    refine a_mmin dX11_bandOf_47 w_methodLink_RainCover_340 w_static_java_lang_Math_min__II_I w_initialized_java_lang_Math w_code_java_lang_Math_min__II_I (by decide) (by decide) (by decide) (by decide) (Nat.le_of_ble_eq_true rfl) ?_
    exact a_iret dX11_bandOf_50 rfl rfl (by decide) (by decide)
theorem dX11_missOf_0 : decode cX11_missOf 0 = .ok (.aload_n 0, 1) := by decide +kernel
theorem dX11_missOf_1 : decode cX11_missOf 1 = .ok (.aload_n 0, 1) := by decide +kernel
theorem dX11_missOf_2 : decode cX11_missOf 2 = .ok (.getfield 21, 3) := by decide +kernel
theorem dX11_missOf_5 : decode cX11_missOf 5 = .ok (.aload_n 0, 1) := by decide +kernel
theorem dX11_missOf_6 : decode cX11_missOf 6 = .ok (.getfield 57, 3) := by decide +kernel
theorem dX11_missOf_9 : decode cX11_missOf 9 = .ok (.iload_n 1, 1) := by decide +kernel
theorem dX11_missOf_10 : decode cX11_missOf 10 = .ok (.iconst 0, 1) := by decide +kernel
theorem dX11_missOf_11 : decode cX11_missOf 11 = .ok (.invokevirtual 266, 3) := by decide +kernel
theorem dX11_missOf_14 : decode cX11_missOf 14 = .ok (.invokevirtual 124, 3) := by decide +kernel
theorem dX11_missOf_17 : decode cX11_missOf 17 = .ok (.checkcast 233, 3) := by decide +kernel
theorem dX11_missOf_20 : decode cX11_missOf 20 = .ok (.aload_n 0, 1) := by decide +kernel
theorem dX11_missOf_21 : decode cX11_missOf 21 = .ok (.getfield 57, 3) := by decide +kernel
theorem dX11_missOf_24 : decode cX11_missOf 24 = .ok (.iload_n 1, 1) := by decide +kernel
theorem dX11_missOf_25 : decode cX11_missOf 25 = .ok (.iconst 1, 1) := by decide +kernel
theorem dX11_missOf_26 : decode cX11_missOf 26 = .ok (.invokevirtual 266, 3) := by decide +kernel
theorem dX11_missOf_29 : decode cX11_missOf 29 = .ok (.iload_n 2, 1) := by decide +kernel
theorem dX11_missOf_30 : decode cX11_missOf 30 = .ok (.aload_n 0, 1) := by decide +kernel
theorem dX11_missOf_31 : decode cX11_missOf 31 = .ok (.invokevirtual 179, 3) := by decide +kernel
theorem dX11_missOf_34 : decode cX11_missOf 34 = .ok (.invokevirtual 282, 3) := by decide +kernel
theorem dX11_missOf_37 : decode cX11_missOf 37 = .ok (.istore_n 3, 1) := by decide +kernel
theorem dX11_missOf_38 : decode cX11_missOf 38 = .ok (.iload_n 3, 1) := by decide +kernel
theorem dX11_missOf_39 : decode cX11_missOf 39 = .ok (.aload_n 0, 1) := by decide +kernel
theorem dX11_missOf_40 : decode cX11_missOf 40 = .ok (.getfield 57, 3) := by decide +kernel
theorem dX11_missOf_43 : decode cX11_missOf 43 = .ok (.iload_n 1, 1) := by decide +kernel
theorem dX11_missOf_44 : decode cX11_missOf 44 = .ok (.iconst 2, 1) := by decide +kernel
theorem dX11_missOf_45 : decode cX11_missOf 45 = .ok (.invokevirtual 266, 3) := by decide +kernel
theorem dX11_missOf_48 : decode cX11_missOf 48 = .ok (.isub, 1) := by decide +kernel
theorem dX11_missOf_49 : decode cX11_missOf 49 = .ok (.invokestatic 345, 3) := by decide +kernel
theorem dX11_missOf_52 : decode cX11_missOf 52 = .ok (.istore 4, 2) := by decide +kernel
theorem dX11_missOf_54 : decode cX11_missOf 54 = .ok (.iload 4, 2) := by decide +kernel
theorem dX11_missOf_56 : decode cX11_missOf 56 = .ok (.aload_n 0, 1) := by decide +kernel
theorem dX11_missOf_57 : decode cX11_missOf 57 = .ok (.getfield 57, 3) := by decide +kernel
theorem dX11_missOf_60 : decode cX11_missOf 60 = .ok (.iload_n 1, 1) := by decide +kernel
theorem dX11_missOf_61 : decode cX11_missOf 61 = .ok (.iconst 3, 1) := by decide +kernel
theorem dX11_missOf_62 : decode cX11_missOf 62 = .ok (.invokevirtual 266, 3) := by decide +kernel
theorem dX11_missOf_65 : decode cX11_missOf 65 = .ok (.isub, 1) := by decide +kernel
theorem dX11_missOf_66 : decode cX11_missOf 66 = .ok (.iconst 0, 1) := by decide +kernel
theorem dX11_missOf_67 : decode cX11_missOf 67 = .ok (.invokestatic 348, 3) := by decide +kernel
theorem dX11_missOf_70 : decode cX11_missOf 70 = .ok (.ireturn, 1) := by decide +kernel
abbrev M_X11_missOf : MI := (RX11, cX11_missOf, 5, (some .int), ({ frames := 7, cells := 0, slots := 0, locals := 173 } : Room), 0, 0, false)
def f_X11_missOf (h0 : AH) (N : Nat) (p0 : Nat) (p1 : Int32) (p2 : Int32) : Option (Int32 × AH) := if kd h0 p0 = 12 + 1 then (xgr h0 p0 12 2).bind fun v1 => (xgr h0 p0 12 9).bind fun v2 => (f_X7_at h0 v2 p1 0).bind fun v3 => (f_Jx4a65c_get_915e3 h0 v1 v3).bind fun v4 => (xcc h0 v4 3).bind fun _ => (xgr h0 p0 12 9).bind fun v5 => (f_X7_at h0 v5 p1 1).bind fun v6 => (f_X11_now h0 p0).bind fun v7 => (f_X11_payOf h0 N p0 v4 v6 p2 v7).bind fun q8 => (xgr q8.2 p0 12 9).bind fun v9 => (f_X7_at q8.2 v9 p1 2).bind fun v10 => (xgr q8.2 p0 12 9).bind fun v11 => (f_X7_at q8.2 v11 p1 3).bind fun v12 => some ((if ((if 0 ≤ (q8.1 - v10) then (q8.1 - v10) else 0 - (q8.1 - v10)) - v12) < 0 then 0 else ((if 0 ≤ (q8.1 - v10) then (q8.1 - v10) else 0 - (q8.1 - v10)) - v12)), q8.2) else none
theorem g_X11_missOf {h0 : AH} {N : Nat} {p0 : Nat} {p1 : Int32} {p2 : Int32} {x : (Int32 × AH)} (e : f_X11_missOf h0 N p0 p1 p2 = some x) : kd h0 p0 = 12 + 1 := by
  unfold f_X11_missOf at e
  by_cases hk : kd h0 p0 = 12 + 1
  · exact hk
  · rw [if_neg hk] at e
    cases e
theorem km_X11_missOf : KM yX11_missOf M_X11_missOf 2 := ⟨in_tb 855 (by decide +kernel) rfl, in_tb 1 (by decide +kernel) rfl, by decide +kernel, rfl, rfl⟩
theorem hm_X11_missOf : M_X11_missOf.2.2.2.2.2.1 = 0 ∧ M_X11_missOf.2.2.2.2.2.2.1 = 0 := ⟨rfl, rfl⟩
section
variable {l : Launch} {g : GG}
end
set_option maxRecDepth 100000 in
set_option maxHeartbeats 4000000 in
theorem c_X11_missOf (l : Launch) (g : GG) (h0 : AH) (N : Nat) (p0 : Nat) (p1 : Int32) (p2 : Int32) : CN l g yX11_missOf M_X11_missOf false [.ref p0, .int p1, .int p2] h0 rSi (f_X11_missOf h0 N p0 p1 p2) := by
  refine CN.of (by decide) rfl (fun hh => by first | rfl | cases hh) (Nat.le_of_ble_eq_true rfl) ?_
  unfold f_X11_missOf
  refine a_gd (fun hkd => ?_)
  refine a_aload_n dX11_missOf_0 rfl 0 rfl ?_
  refine a_aload_n dX11_missOf_1 rfl 0 rfl ?_
  refine a_getr kc12 2 dX11_missOf_2 (by decide) rfl w_fieldLink_RainCover_21 (fun v1 => ?_)
  refine a_aload_n dX11_missOf_5 rfl 0 rfl ?_
  refine a_getr kc12 9 dX11_missOf_6 (by decide) rfl w_fieldLink_RainCover_57 (fun v2 => ?_)
  refine a_iload_n dX11_missOf_9 rfl 1 rfl ?_
  refine a_iconst (v := 0) dX11_missOf_10 (by decide) ?_
  refine a_cV_Pi (r := v2) (ci := 8) (as := [.int p1, .int 0]) (st := [.ref v1, .ref p0]) dX11_missOf_11 (c_X7_at l g h0 v2 p1 0) rfl km_X7_at (hm_X7_at) rfl (by decide) rfl (fun _ ee => g_X7_at ee) w_methodLink_RainCover_266 w_instanceMethod_RainCover_Table_at__II_I w_selects_RainCover_Table_RainCover_Table_at__II_I_RainCover_Table_at__II_I ⟨⟨by decide, by decide⟩, ⟨by decide, by decide⟩⟩ (Nat.le_of_ble_eq_true rfl) (fun v3 => ?_)
  refine a_cV_Pr (r := v1) (ci := 0) (as := [.int v3]) (st := [.ref p0]) dX11_missOf_14 (c_Jx4a65c_get_915e3 l g h0 v1 v3) rfl km_Jx4a65c_get_915e3 (hm_Jx4a65c_get_915e3) rfl (by decide) rfl (fun _ ee => g_Jx4a65c_get_915e3 ee) w_methodLink_RainCover_124 w_instanceMethod_java_util_ArrayList_get__I_Ljava_lang_Object_ w_selects_java_util_ArrayList_java_util_ArrayList_get__I_Ljava_lang_Object__java_util_ArrayList_get__I_Ljava_lang_Object_ ⟨⟨by decide, by decide⟩, ⟨by decide, by decide⟩⟩ (Nat.le_of_ble_eq_true rfl) (fun v4 => ?_)
  refine a_cast kc3 dX11_missOf_17 w_classLink_RainCover_233 ?_
  refine a_aload_n dX11_missOf_20 rfl 0 rfl ?_
  refine a_getr kc12 9 dX11_missOf_21 (by decide) rfl w_fieldLink_RainCover_57 (fun v5 => ?_)
  refine a_iload_n dX11_missOf_24 rfl 1 rfl ?_
  refine a_iconst (v := 1) dX11_missOf_25 (by decide) ?_
  refine a_cV_Pi (r := v5) (ci := 8) (as := [.int p1, .int 1]) (st := [.ref v4, .ref p0]) dX11_missOf_26 (c_X7_at l g h0 v5 p1 1) rfl km_X7_at (hm_X7_at) rfl (by decide) rfl (fun _ ee => g_X7_at ee) w_methodLink_RainCover_266 w_instanceMethod_RainCover_Table_at__II_I w_selects_RainCover_Table_RainCover_Table_at__II_I_RainCover_Table_at__II_I ⟨⟨by decide, by decide⟩, ⟨by decide, by decide⟩⟩ (Nat.le_of_ble_eq_true rfl) (fun v6 => ?_)
  refine a_iload_n dX11_missOf_29 rfl 2 rfl ?_
  refine a_aload_n dX11_missOf_30 rfl 0 rfl ?_
  refine a_cV_Pi (r := p0) (ci := 12) (as := []) (st := [.int p2, .int v6, .ref v4, .ref p0]) dX11_missOf_31 (c_X11_now l g h0 p0) rfl km_X11_now (hm_X11_now) rfl (by decide) rfl (fun _ ee => g_X11_now ee) w_methodLink_RainCover_179 w_instanceMethod_RainCover_now___I w_selects_RainCover_RainCover_now___I_RainCover_now___I ⟨⟨by decide, by decide⟩, ⟨by decide, by decide⟩⟩ (Nat.le_of_ble_eq_true rfl) (fun v7 => ?_)
  refine a_cV_Si (r := p0) (ci := 12) (as := [.ref v4, .int v6, .int p2, .int v7]) (st := []) dX11_missOf_34 (c_X11_payOf l g h0 N p0 v4 v6 p2 v7) rfl km_X11_payOf (hm_X11_payOf) rfl (by decide) rfl (fun _ ee => g_X11_payOf ee) w_methodLink_RainCover_282 w_instanceMethod_RainCover_payOf__LRainCover_Farm_III_I w_selects_RainCover_RainCover_payOf__LRainCover_Farm_III_I_RainCover_payOf__LRainCover_Farm_III_I ⟨⟨by decide, by decide⟩, ⟨by decide, by decide⟩⟩ (Nat.le_of_ble_eq_true rfl) (fun q8 => ?_)
  refine a_istore_n (lc2 := [(3, .int q8.1), (0, .ref p0), (1, .int p1), (2, .int p2)]) dX11_missOf_37 rfl (by decide) rfl ?_
  refine a_iload_n dX11_missOf_38 rfl 0 rfl ?_
  refine a_aload_n dX11_missOf_39 rfl 1 rfl ?_
  refine a_getr kc12 9 dX11_missOf_40 (by decide) rfl w_fieldLink_RainCover_57 (fun v9 => ?_)
  refine a_iload_n dX11_missOf_43 rfl 2 rfl ?_
  refine a_iconst (v := 2) dX11_missOf_44 (by decide) ?_
  refine a_cV_Pi (r := v9) (ci := 8) (as := [.int p1, .int 2]) (st := [.int q8.1]) dX11_missOf_45 (c_X7_at l g q8.2 v9 p1 2) rfl km_X7_at (hm_X7_at) rfl (by decide) rfl (fun _ ee => g_X7_at ee) w_methodLink_RainCover_266 w_instanceMethod_RainCover_Table_at__II_I w_selects_RainCover_Table_RainCover_Table_at__II_I_RainCover_Table_at__II_I ⟨⟨by decide, by decide⟩, ⟨by decide, by decide⟩⟩ (Nat.le_of_ble_eq_true rfl) (fun v10 => ?_)
  refine a_isub dX11_missOf_48 ?_
  refine a_mabs dX11_missOf_49 w_methodLink_RainCover_345 w_static_java_lang_Math_abs__I_I w_initialized_java_lang_Math w_code_java_lang_Math_abs__I_I (by decide) (by decide) (by decide) (by decide) (Nat.le_of_ble_eq_true rfl) ?_
  refine a_istore (lc2 := [(4, .int (if 0 ≤ (q8.1 - v10) then (q8.1 - v10) else 0 - (q8.1 - v10))), (3, .int q8.1), (0, .ref p0), (1, .int p1), (2, .int p2)]) dX11_missOf_52 (by decide) rfl ?_
  refine a_iload dX11_missOf_54 0 rfl ?_
  refine a_aload_n dX11_missOf_56 rfl 2 rfl ?_
  refine a_getr kc12 9 dX11_missOf_57 (by decide) rfl w_fieldLink_RainCover_57 (fun v11 => ?_)
  refine a_iload_n dX11_missOf_60 rfl 3 rfl ?_
  refine a_iconst (v := 3) dX11_missOf_61 (by decide) ?_
  refine a_cV_Pi (r := v11) (ci := 8) (as := [.int p1, .int 3]) (st := [.int (if 0 ≤ (q8.1 - v10) then (q8.1 - v10) else 0 - (q8.1 - v10))]) dX11_missOf_62 (c_X7_at l g q8.2 v11 p1 3) rfl km_X7_at (hm_X7_at) rfl (by decide) rfl (fun _ ee => g_X7_at ee) w_methodLink_RainCover_266 w_instanceMethod_RainCover_Table_at__II_I w_selects_RainCover_Table_RainCover_Table_at__II_I_RainCover_Table_at__II_I ⟨⟨by decide, by decide⟩, ⟨by decide, by decide⟩⟩ (Nat.le_of_ble_eq_true rfl) (fun v12 => ?_)
  refine a_isub dX11_missOf_65 ?_
  refine a_iconst (v := 0) dX11_missOf_66 (by decide) ?_
  refine a_mmax dX11_missOf_67 w_methodLink_RainCover_348 w_static_java_lang_Math_max__II_I w_initialized_java_lang_Math w_code_java_lang_Math_max__II_I (by decide) (by decide) (by decide) (by decide) (Nat.le_of_ble_eq_true rfl) ?_
  exact a_iret dX11_missOf_70 rfl rfl (by decide) (by decide)
theorem dX11_commonDivisor_0 : decode cX11_commonDivisor 0 = .ok (.iconst 0, 1) := by decide +kernel
theorem dX11_commonDivisor_1 : decode cX11_commonDivisor 1 = .ok (.istore 4, 2) := by decide +kernel
theorem dX11_commonDivisor_3 : decode cX11_commonDivisor 3 = .ok (.iload 4, 2) := by decide +kernel
theorem dX11_commonDivisor_5 : decode cX11_commonDivisor 5 = .ok (.bipush 100, 2) := by decide +kernel
theorem dX11_commonDivisor_7 : decode cX11_commonDivisor 7 = .ok (.if_icmp .ge 25, 3) := by decide +kernel
theorem dX11_commonDivisor_10 : decode cX11_commonDivisor 10 = .ok (.lload_n 2, 1) := by decide +kernel
theorem dX11_commonDivisor_11 : decode cX11_commonDivisor 11 = .ok (.lconst 0, 1) := by decide +kernel
theorem dX11_commonDivisor_12 : decode cX11_commonDivisor 12 = .ok (.lcmp, 1) := by decide +kernel
theorem dX11_commonDivisor_13 : decode cX11_commonDivisor 13 = .ok (.ifCond .eq 19, 3) := by decide +kernel
theorem dX11_commonDivisor_16 : decode cX11_commonDivisor 16 = .ok (.lload_n 0, 1) := by decide +kernel
theorem dX11_commonDivisor_17 : decode cX11_commonDivisor 17 = .ok (.lload_n 2, 1) := by decide +kernel
theorem dX11_commonDivisor_18 : decode cX11_commonDivisor 18 = .ok (.lrem, 1) := by decide +kernel
theorem dX11_commonDivisor_19 : decode cX11_commonDivisor 19 = .ok (.lstore 5, 2) := by decide +kernel
theorem dX11_commonDivisor_21 : decode cX11_commonDivisor 21 = .ok (.lload_n 2, 1) := by decide +kernel
theorem dX11_commonDivisor_22 : decode cX11_commonDivisor 22 = .ok (.lstore_n 0, 1) := by decide +kernel
theorem dX11_commonDivisor_23 : decode cX11_commonDivisor 23 = .ok (.lload 5, 2) := by decide +kernel
theorem dX11_commonDivisor_25 : decode cX11_commonDivisor 25 = .ok (.lstore_n 2, 1) := by decide +kernel
theorem dX11_commonDivisor_26 : decode cX11_commonDivisor 26 = .ok (.iinc 4 1, 3) := by decide +kernel
theorem dX11_commonDivisor_29 : decode cX11_commonDivisor 29 = .ok (.goto (-26), 3) := by decide +kernel
theorem dX11_commonDivisor_32 : decode cX11_commonDivisor 32 = .ok (.lload_n 0, 1) := by decide +kernel
theorem dX11_commonDivisor_33 : decode cX11_commonDivisor 33 = .ok (.lreturn, 1) := by decide +kernel
abbrev M_X11_commonDivisor : MI := (RX11, cX11_commonDivisor, 7, (some .long), ({ frames := 0, cells := 0, slots := 0, locals := 0 } : Room), 0, 0, false)
def f_X11_commonDivisor_b3_body (h : AH) (N : Nat) (K3 : Int64 → Int64 → Int32 → Option Int64) (x0 : Int64) (x2 : Int64) (x4 : Int32) : Option Int64 := (if 100 ≤ x4 then some x0 else (if (lg_cmp x2 0) = 0 then some x0 else (if x2 = 0 then none else K3 x2 (x0 - x0 / x2 * x2) (x4 + 1))))
def f_X11_commonDivisor_b3 (h : AH) (N : Nat) : Nat → Int64 → Int64 → Int32 → Option Int64
  | 0, _, _, _ => none
  | n + 1, x0, x2, x4 => f_X11_commonDivisor_b3_body h N  (f_X11_commonDivisor_b3 h N  n) x0 x2 x4
def f_X11_commonDivisor (h : AH) (N : Nat) (p0 : Int64) (p1 : Int64) : Option Int64 := f_X11_commonDivisor_b3 h N N p0 p1 0
theorem km_X11_commonDivisor : KM yX11_commonDivisor M_X11_commonDivisor 2 := ⟨in_tb 868 (by decide +kernel) rfl, in_tb 1 (by decide +kernel) rfl, by decide +kernel, rfl, rfl⟩
theorem hm_X11_commonDivisor : M_X11_commonDivisor.2.2.2.2.2.1 = 0 ∧ M_X11_commonDivisor.2.2.2.2.2.2.1 = 0 := ⟨rfl, rfl⟩
section
variable {l : Launch} {g : GG}
set_option maxRecDepth 100000 in
set_option maxHeartbeats 4000000 in
theorem t_X11_commonDivisor_b3_body (h : AH) (N : Nat) (K3 : Int64 → Int64 → Int32 → Option Int64) (hK3 : ∀ (z0 : Int64) (z1 : Int64) (z2 : Int32), AO l g M_X11_commonDivisor false h 3 [(0, .long z0), (2, .long z1), (4, .int z2)] [] h 0 0 (rPl h) (K3 z0 z1 z2)) (x0 : Int64) (x2 : Int64) (x4 : Int32) : AO l g M_X11_commonDivisor false h 3 [(0, .long x0), (2, .long x2), (4, .int x4)] [] h 0 0 (rPl h) (f_X11_commonDivisor_b3_body h N K3 x0 x2 x4) := by
  unfold f_X11_commonDivisor_b3_body
  refine a_iload dX11_commonDivisor_3 2 rfl ?_
  refine a_bipush (v := 100) dX11_commonDivisor_5 (by decide) ?_
  refine a_icmp_ge 32 dX11_commonDivisor_7 (by decide) (fun c1 => ?_) (fun c1 => ?_)
  · refine a_lload_n dX11_commonDivisor_32 rfl 0 rfl ?_
    exact a_lret dX11_commonDivisor_33 rfl rfl (by decide) (by decide)
  · refine a_lload_n dX11_commonDivisor_10 rfl 1 rfl ?_
    refine a_lconst (v := 0) dX11_commonDivisor_11 (by decide) ?_
    refine a_lcmp dX11_commonDivisor_12 ?_
    refine a_if_eq 32 dX11_commonDivisor_13 (by decide) (fun c2 => ?_) (fun c2 => ?_)
    · refine a_lload_n dX11_commonDivisor_32 rfl 0 rfl ?_
      exact a_lret dX11_commonDivisor_33 rfl rfl (by decide) (by decide)
    · refine a_lload_n dX11_commonDivisor_16 rfl 0 rfl ?_
      refine a_lload_n dX11_commonDivisor_17 rfl 1 rfl ?_
      refine a_lrem dX11_commonDivisor_18 (fun c3 => ?_)
      refine a_lstore (lc2 := [(5, .long (x0 - x0 / x2 * x2)), (0, .long x0), (2, .long x2), (4, .int x4)]) dX11_commonDivisor_19 (by decide) rfl ?_
      refine a_lload_n dX11_commonDivisor_21 rfl 2 rfl ?_
      refine a_lstore_n (lc2 := [(0, .long x2), (5, .long (x0 - x0 / x2 * x2)), (2, .long x2), (4, .int x4)]) dX11_commonDivisor_22 rfl (by decide) rfl ?_
      refine a_lload dX11_commonDivisor_23 1 rfl ?_
      refine a_lstore_n (lc2 := [(2, .long (x0 - x0 / x2 * x2)), (0, .long x2), (5, .long (x0 - x0 / x2 * x2)), (4, .int x4)]) dX11_commonDivisor_25 rfl (by decide) rfl ?_
      refine a_iinc (q := 3) (v := (x4 + 1)) (lc2 := [(4, .int (x4 + 1)), (2, .long (x0 - x0 / x2 * x2)), (0, .long x2), (5, .long (x0 - x0 / x2 * x2))]) dX11_commonDivisor_26 rfl rfl (by decide) rfl ?_
      refine a_goto 3 dX11_commonDivisor_29 (by decide) ?_
      refine a_pick (lc2 := [(0, .long x2), (2, .long (x0 - x0 / x2 * x2)), (4, .int (x4 + 1))]) [2, 1, 0] rfl ?_
      exact hK3 x2 (x0 - x0 / x2 * x2) (x4 + 1)
set_option maxRecDepth 100000 in
set_option maxHeartbeats 4000000 in
theorem t_X11_commonDivisor_b3 (h : AH) (N : Nat) : ∀ (n : Nat) (x0 : Int64) (x2 : Int64) (x4 : Int32) , AO l g M_X11_commonDivisor false h 3 [(0, .long x0), (2, .long x2), (4, .int x4)] [] h 0 0 (rPl h) (f_X11_commonDivisor_b3 h N  n x0 x2 x4) := by
  intro n
  induction n with
  | zero => intro x0 x2 x4; exact a_eq rfl a_none
  | succ n ih => intro x0 x2 x4; exact a_eq rfl (t_X11_commonDivisor_b3_body h N  (f_X11_commonDivisor_b3 h N  n) ih x0 x2 x4)
end
set_option maxRecDepth 100000 in
set_option maxHeartbeats 4000000 in
theorem c_X11_commonDivisor (l : Launch) (g : GG) (h : AH) (N : Nat) (p0 : Int64) (p1 : Int64) : CN l g yX11_commonDivisor M_X11_commonDivisor false [.long p0, .long p1] h ((rPl h)) (f_X11_commonDivisor h N p0 p1) := by
  refine CN.of (by decide) rfl (fun hh => by first | rfl | cases hh) (Nat.le_of_ble_eq_true rfl) ?_
  unfold f_X11_commonDivisor
  refine a_iconst (v := 0) dX11_commonDivisor_0 (by decide) ?_
  refine a_istore (lc2 := [(4, .int 0), (0, .long p0), (2, .long p1)]) dX11_commonDivisor_1 (by decide) rfl ?_
  refine a_pick (lc2 := [(0, .long p0), (2, .long p1), (4, .int 0)]) [1, 2, 0] rfl ?_
  exact t_X11_commonDivisor_b3 h N N p0 p1 0
theorem dX11_partOf_0 : decode cX11_partOf 0 = .ok (.lload_n 0, 1) := by decide +kernel
theorem dX11_partOf_1 : decode cX11_partOf 1 = .ok (.invokestatic 493, 3) := by decide +kernel
theorem dX11_partOf_4 : decode cX11_partOf 4 = .ok (.lload_n 2, 1) := by decide +kernel
theorem dX11_partOf_5 : decode cX11_partOf 5 = .ok (.invokestatic 496, 3) := by decide +kernel
theorem dX11_partOf_8 : decode cX11_partOf 8 = .ok (.lstore 5, 2) := by decide +kernel
theorem dX11_partOf_10 : decode cX11_partOf 10 = .ok (.lload 5, 2) := by decide +kernel
theorem dX11_partOf_12 : decode cX11_partOf 12 = .ok (.lconst 0, 1) := by decide +kernel
theorem dX11_partOf_13 : decode cX11_partOf 13 = .ok (.lcmp, 1) := by decide +kernel
theorem dX11_partOf_14 : decode cX11_partOf 14 = .ok (.ifCond .ne 7, 3) := by decide +kernel
theorem dX11_partOf_17 : decode cX11_partOf 17 = .ok (.ldc2_w 327, 3) := by decide +kernel
theorem dX11_partOf_20 : decode cX11_partOf 20 = .ok (.lreturn, 1) := by decide +kernel
theorem dX11_partOf_21 : decode cX11_partOf 21 = .ok (.iload 4, 2) := by decide +kernel
theorem dX11_partOf_23 : decode cX11_partOf 23 = .ok (.ifCond .ne 10, 3) := by decide +kernel
theorem dX11_partOf_26 : decode cX11_partOf 26 = .ok (.lload_n 0, 1) := by decide +kernel
theorem dX11_partOf_27 : decode cX11_partOf 27 = .ok (.lload 5, 2) := by decide +kernel
theorem dX11_partOf_29 : decode cX11_partOf 29 = .ok (.ldiv, 1) := by decide +kernel
theorem dX11_partOf_30 : decode cX11_partOf 30 = .ok (.goto 7, 3) := by decide +kernel
theorem dX11_partOf_33 : decode cX11_partOf 33 = .ok (.lload_n 2, 1) := by decide +kernel
theorem dX11_partOf_34 : decode cX11_partOf 34 = .ok (.lload 5, 2) := by decide +kernel
theorem dX11_partOf_36 : decode cX11_partOf 36 = .ok (.ldiv, 1) := by decide +kernel
theorem dX11_partOf_37 : decode cX11_partOf 37 = .ok (.lreturn, 1) := by decide +kernel
abbrev M_X11_partOf : MI := (RX11, cX11_partOf, 7, (some .long), ({ frames := 1, cells := 0, slots := 0, locals := 26 } : Room), 0, 0, false)
def f_X11_partOf (h : AH) (N : Nat) (p0 : Int64) (p1 : Int64) (p2 : Int32) : Option Int64 := (f_X11_commonDivisor h N (if 0 < p0 then p0 else -p0) p1).bind fun v1 => (if (lg_cmp v1 0) = 0 then some (-9223372036854775808) else (if p2 = 0 then (if v1 = 0 then none else some (p0 / v1)) else (if v1 = 0 then none else some (p1 / v1))))
theorem km_X11_partOf : KM yX11_partOf M_X11_partOf 3 := ⟨in_tb 862 (by decide +kernel) rfl, in_tb 1 (by decide +kernel) rfl, by decide +kernel, rfl, rfl⟩
theorem hm_X11_partOf : M_X11_partOf.2.2.2.2.2.1 = 0 ∧ M_X11_partOf.2.2.2.2.2.2.1 = 0 := ⟨rfl, rfl⟩
section
variable {l : Launch} {g : GG}
end
set_option maxRecDepth 100000 in
set_option maxHeartbeats 4000000 in
theorem c_X11_partOf (l : Launch) (g : GG) (h : AH) (N : Nat) (p0 : Int64) (p1 : Int64) (p2 : Int32) : CN l g yX11_partOf M_X11_partOf false [.long p0, .long p1, .int p2] h ((rPl h)) (f_X11_partOf h N p0 p1 p2) := by
  refine CN.of (by decide) rfl (fun hh => by first | rfl | cases hh) (Nat.le_of_ble_eq_true rfl) ?_
  unfold f_X11_partOf
  refine a_lload_n dX11_partOf_0 rfl 0 rfl ?_
  refine a_mabs_long dX11_partOf_1 w_methodLink_RainCover_493 w_static_java_lang_Math_abs__J_J w_initialized_java_lang_Math w_code_java_lang_Math_abs__J_J (by decide) (by decide) (by decide) (by decide) (Nat.le_of_ble_eq_true rfl) ?_
  refine a_lload_n dX11_partOf_4 rfl 1 rfl ?_
  refine a_cS_Pl (as := [.long (if 0 < p0 then p0 else -p0), .long p1]) (st := []) dX11_partOf_5 (c_X11_commonDivisor l g h N (if 0 < p0 then p0 else -p0) p1) rfl km_X11_commonDivisor (hm_X11_commonDivisor) w_methodLink_RainCover_496 w_static_RainCover_commonDivisor__JJ_J ⟨⟨by decide, by decide⟩, ⟨by decide, by decide⟩⟩ (Nat.le_of_ble_eq_true rfl) (fun v1 => ?_)
  refine a_lstore (lc2 := [(5, .long v1), (0, .long p0), (2, .long p1), (4, .int p2)]) dX11_partOf_8 (by decide) rfl ?_
  refine a_lload dX11_partOf_10 0 rfl ?_
  refine a_lconst (v := 0) dX11_partOf_12 (by decide) ?_
  refine a_lcmp dX11_partOf_13 ?_
  refine a_if_ne 21 dX11_partOf_14 (by decide) (fun c2 => ?_) (fun c2 => ?_)
  · refine a_ldc2 (v := (-9223372036854775808)) dX11_partOf_17 w_constantLong_RainCover_327 ?_
    exact a_lret dX11_partOf_20 rfl rfl (by decide) (by decide)
  · refine a_iload dX11_partOf_21 3 rfl ?_
    refine a_if_ne 33 dX11_partOf_23 (by decide) (fun c3 => ?_) (fun c3 => ?_)
    · refine a_lload_n dX11_partOf_26 rfl 1 rfl ?_
      refine a_lload dX11_partOf_27 0 rfl ?_
      refine a_ldiv dX11_partOf_29 (fun c4 => ?_)
      refine a_goto 37 dX11_partOf_30 (by decide) ?_
      exact a_lret dX11_partOf_37 rfl rfl (by decide) (by decide)
    · refine a_lload_n dX11_partOf_33 rfl 2 rfl ?_
      refine a_lload dX11_partOf_34 0 rfl ?_
      refine a_ldiv dX11_partOf_36 (fun c5 => ?_)
      exact a_lret dX11_partOf_37 rfl rfl (by decide) (by decide)
theorem dX11_basis_0 : decode cX11_basis 0 = .ok (.aload_n 0, 1) := by decide +kernel
theorem dX11_basis_1 : decode cX11_basis 1 = .ok (.iload_n 1, 1) := by decide +kernel
theorem dX11_basis_2 : decode cX11_basis 2 = .ok (.invokevirtual 219, 3) := by decide +kernel
theorem dX11_basis_5 : decode cX11_basis 5 = .ok (.ifCond .eq 21, 3) := by decide +kernel
theorem dX11_basis_8 : decode cX11_basis 8 = .ok (.iload_n 2, 1) := by decide +kernel
theorem dX11_basis_9 : decode cX11_basis 9 = .ok (.iconst 0, 1) := by decide +kernel
theorem dX11_basis_10 : decode cX11_basis 10 = .ok (.iconst 3, 1) := by decide +kernel
theorem dX11_basis_11 : decode cX11_basis 11 = .ok (.invokestatic 120, 3) := by decide +kernel
theorem dX11_basis_14 : decode cX11_basis 14 = .ok (.ifCond .eq 12, 3) := by decide +kernel
theorem dX11_basis_17 : decode cX11_basis 17 = .ok (.iload_n 3, 1) := by decide +kernel
theorem dX11_basis_18 : decode cX11_basis 18 = .ok (.iconst 0, 1) := by decide +kernel
theorem dX11_basis_19 : decode cX11_basis 19 = .ok (.iconst 1, 1) := by decide +kernel
theorem dX11_basis_20 : decode cX11_basis 20 = .ok (.invokestatic 120, 3) := by decide +kernel
theorem dX11_basis_23 : decode cX11_basis 23 = .ok (.ifCond .ne 7, 3) := by decide +kernel
theorem dX11_basis_26 : decode cX11_basis 26 = .ok (.ldc2_w 327, 3) := by decide +kernel
theorem dX11_basis_29 : decode cX11_basis 29 = .ok (.lreturn, 1) := by decide +kernel
theorem dX11_basis_30 : decode cX11_basis 30 = .ok (.lconst 0, 1) := by decide +kernel
theorem dX11_basis_31 : decode cX11_basis 31 = .ok (.lstore 4, 2) := by decide +kernel
theorem dX11_basis_33 : decode cX11_basis 33 = .ok (.iconst 0, 1) := by decide +kernel
theorem dX11_basis_34 : decode cX11_basis 34 = .ok (.istore 6, 2) := by decide +kernel
theorem dX11_basis_36 : decode cX11_basis 36 = .ok (.iconst 0, 1) := by decide +kernel
theorem dX11_basis_37 : decode cX11_basis 37 = .ok (.istore 7, 2) := by decide +kernel
theorem dX11_basis_39 : decode cX11_basis 39 = .ok (.iload 7, 2) := by decide +kernel
theorem dX11_basis_41 : decode cX11_basis 41 = .ok (.aload_n 0, 1) := by decide +kernel
theorem dX11_basis_42 : decode cX11_basis 42 = .ok (.getfield 57, 3) := by decide +kernel
theorem dX11_basis_45 : decode cX11_basis 45 = .ok (.getfield 306, 3) := by decide +kernel
theorem dX11_basis_48 : decode cX11_basis 48 = .ok (.if_icmp .ge 38, 3) := by decide +kernel
theorem dX11_basis_51 : decode cX11_basis 51 = .ok (.aload_n 0, 1) := by decide +kernel
theorem dX11_basis_52 : decode cX11_basis 52 = .ok (.iload 7, 2) := by decide +kernel
theorem dX11_basis_54 : decode cX11_basis 54 = .ok (.invokevirtual 329, 3) := by decide +kernel
theorem dX11_basis_57 : decode cX11_basis 57 = .ok (.iload_n 2, 1) := by decide +kernel
theorem dX11_basis_58 : decode cX11_basis 58 = .ok (.if_icmp .eq 6, 3) := by decide +kernel
theorem dX11_basis_61 : decode cX11_basis 61 = .ok (.goto 19, 3) := by decide +kernel
theorem dX11_basis_64 : decode cX11_basis 64 = .ok (.lload 4, 2) := by decide +kernel
theorem dX11_basis_66 : decode cX11_basis 66 = .ok (.aload_n 0, 1) := by decide +kernel
theorem dX11_basis_67 : decode cX11_basis 67 = .ok (.iload 7, 2) := by decide +kernel
theorem dX11_basis_69 : decode cX11_basis 69 = .ok (.iload_n 1, 1) := by decide +kernel
theorem dX11_basis_70 : decode cX11_basis 70 = .ok (.invokevirtual 333, 3) := by decide +kernel
theorem dX11_basis_73 : decode cX11_basis 73 = .ok (.i2l, 1) := by decide +kernel
theorem dX11_basis_74 : decode cX11_basis 74 = .ok (.ladd, 1) := by decide +kernel
theorem dX11_basis_75 : decode cX11_basis 75 = .ok (.lstore 4, 2) := by decide +kernel
theorem dX11_basis_77 : decode cX11_basis 77 = .ok (.iinc 6 1, 3) := by decide +kernel
theorem dX11_basis_80 : decode cX11_basis 80 = .ok (.iinc 7 1, 3) := by decide +kernel
theorem dX11_basis_83 : decode cX11_basis 83 = .ok (.goto (-44), 3) := by decide +kernel
theorem dX11_basis_86 : decode cX11_basis 86 = .ok (.iload 6, 2) := by decide +kernel
theorem dX11_basis_88 : decode cX11_basis 88 = .ok (.ifCond .ne 9, 3) := by decide +kernel
theorem dX11_basis_91 : decode cX11_basis 91 = .ok (.ldc2_w 327, 3) := by decide +kernel
theorem dX11_basis_94 : decode cX11_basis 94 = .ok (.goto 12, 3) := by decide +kernel
theorem dX11_basis_97 : decode cX11_basis 97 = .ok (.lload 4, 2) := by decide +kernel
theorem dX11_basis_99 : decode cX11_basis 99 = .ok (.iload 6, 2) := by decide +kernel
theorem dX11_basis_101 : decode cX11_basis 101 = .ok (.i2l, 1) := by decide +kernel
theorem dX11_basis_102 : decode cX11_basis 102 = .ok (.iload_n 3, 1) := by decide +kernel
theorem dX11_basis_103 : decode cX11_basis 103 = .ok (.invokestatic 336, 3) := by decide +kernel
theorem dX11_basis_106 : decode cX11_basis 106 = .ok (.lreturn, 1) := by decide +kernel
abbrev M_X11_basis : MI := (RX11, cX11_basis, 8, (some .long), ({ frames := 8, cells := 0, slots := 0, locals := 197 } : Room), 0, 0, false)
def f_X11_basis_b80 (N : Nat) (K39 : AH → Nat → Int32 → Int32 → Int32 → Int64 → Int32 → Int32 → Option (Int64 × AH)) (h : AH) (x0 : Nat) (x1 : Int32) (x2 : Int32) (x3 : Int32) (x4 : Int64) (x6 : Int32) (x7 : Int32) : Option (Int64 × AH) := K39 h x0 x1 x2 x3 x4 x6 (x7 + 1)
def f_X11_basis_b39_body (N : Nat) (K39 : AH → Nat → Int32 → Int32 → Int32 → Int64 → Int32 → Int32 → Option (Int64 × AH)) (h : AH) (x0 : Nat) (x1 : Int32) (x2 : Int32) (x3 : Int32) (x4 : Int64) (x6 : Int32) (x7 : Int32) : Option (Int64 × AH) := (xgr h x0 12 9).bind fun v7 => (xgi h v7 8 3).bind fun v8 => (if v8 ≤ x7 then (if x6 = 0 then some ((-9223372036854775808), h) else (f_X11_partOf h N x4 (x6 : Int32).toInt64 x3).bind fun v11 => some (v11, h)) else (f_X11_bandOf h N x0 x7).bind fun v12 => (if v12 = x2 then (f_X11_missOf h N x0 x7 x1).bind fun q14 => f_X11_basis_b80 N K39 q14.2 x0 x1 x2 x3 (x4 + (q14.1 : Int32).toInt64) (x6 + 1) x7 else f_X11_basis_b80 N K39 h x0 x1 x2 x3 x4 x6 x7))
def f_X11_basis_b39 (N : Nat) : Nat → AH → Nat → Int32 → Int32 → Int32 → Int64 → Int32 → Int32 → Option (Int64 × AH)
  | 0, _, _, _, _, _, _, _, _ => none
  | n + 1, h, x0, x1, x2, x3, x4, x6, x7 => f_X11_basis_b39_body N  (f_X11_basis_b39 N  n) h x0 x1 x2 x3 x4 x6 x7
def f_X11_basis (h0 : AH) (N : Nat) (p0 : Nat) (p1 : Int32) (p2 : Int32) (p3 : Int32) : Option (Int64 × AH) := if kd h0 p0 = 12 + 1 then (f_X11_isTerm h0 p0 p1).bind fun v1 => (if v1 = 0 then some ((-9223372036854775808), h0) else (f_X11_within h0 p2 0 3).bind fun v3 => (if v3 = 0 then some ((-9223372036854775808), h0) else (f_X11_within h0 p3 0 1).bind fun v5 => (if v5 = 0 then some ((-9223372036854775808), h0) else f_X11_basis_b39 N N h0 p0 p1 p2 p3 0 0 0))) else none
theorem g_X11_basis {h0 : AH} {N : Nat} {p0 : Nat} {p1 : Int32} {p2 : Int32} {p3 : Int32} {x : (Int64 × AH)} (e : f_X11_basis h0 N p0 p1 p2 p3 = some x) : kd h0 p0 = 12 + 1 := by
  unfold f_X11_basis at e
  by_cases hk : kd h0 p0 = 12 + 1
  · exact hk
  · rw [if_neg hk] at e
    cases e
theorem km_X11_basis : KM yX11_basis M_X11_basis 3 := ⟨in_tb 845 (by decide +kernel) rfl, in_tb 1 (by decide +kernel) rfl, by decide +kernel, rfl, rfl⟩
theorem hm_X11_basis : M_X11_basis.2.2.2.2.2.1 = 0 ∧ M_X11_basis.2.2.2.2.2.2.1 = 0 := ⟨rfl, rfl⟩
section
variable {l : Launch} {g : GG}
set_option maxRecDepth 100000 in
set_option maxHeartbeats 4000000 in
theorem t_X11_basis_b80 (h0 : AH) (N : Nat) (K39 : AH → Nat → Int32 → Int32 → Int32 → Int64 → Int32 → Int32 → Option (Int64 × AH)) (hK39 : ∀ (z : AH) (z0 : Nat) (z1 : Int32) (z2 : Int32) (z3 : Int32) (z4 : Int64) (z5 : Int32) (z6 : Int32), AO l g M_X11_basis false h0 39 [(0, .ref z0), (1, .int z1), (2, .int z2), (3, .int z3), (4, .long z4), (6, .int z5), (7, .int z6)] [] z 0 0 rSl (K39 z z0 z1 z2 z3 z4 z5 z6)) (h : AH) (x0 : Nat) (x1 : Int32) (x2 : Int32) (x3 : Int32) (x4 : Int64) (x6 : Int32) (x7 : Int32) : AO l g M_X11_basis false h0 80 [(0, .ref x0), (1, .int x1), (2, .int x2), (3, .int x3), (4, .long x4), (6, .int x6), (7, .int x7)] [] h 0 0 rSl (f_X11_basis_b80 N K39 h x0 x1 x2 x3 x4 x6 x7) := by
  unfold f_X11_basis_b80
  refine a_iinc (q := 6) (v := (x7 + 1)) (lc2 := [(7, .int (x7 + 1)), (0, .ref x0), (1, .int x1), (2, .int x2), (3, .int x3), (4, .long x4), (6, .int x6)]) dX11_basis_80 rfl rfl (by decide) rfl ?_
  refine a_goto 39 dX11_basis_83 (by decide) ?_
  refine a_pick (lc2 := [(0, .ref x0), (1, .int x1), (2, .int x2), (3, .int x3), (4, .long x4), (6, .int x6), (7, .int (x7 + 1))]) [1, 2, 3, 4, 5, 6, 0] rfl ?_
  exact hK39 h x0 x1 x2 x3 x4 x6 (x7 + 1)
set_option maxRecDepth 100000 in
set_option maxHeartbeats 4000000 in
theorem t_X11_basis_b39_body (h0 : AH) (N : Nat) (K39 : AH → Nat → Int32 → Int32 → Int32 → Int64 → Int32 → Int32 → Option (Int64 × AH)) (hK39 : ∀ (z : AH) (z0 : Nat) (z1 : Int32) (z2 : Int32) (z3 : Int32) (z4 : Int64) (z5 : Int32) (z6 : Int32), AO l g M_X11_basis false h0 39 [(0, .ref z0), (1, .int z1), (2, .int z2), (3, .int z3), (4, .long z4), (6, .int z5), (7, .int z6)] [] z 0 0 rSl (K39 z z0 z1 z2 z3 z4 z5 z6)) (h : AH) (x0 : Nat) (x1 : Int32) (x2 : Int32) (x3 : Int32) (x4 : Int64) (x6 : Int32) (x7 : Int32) : AO l g M_X11_basis false h0 39 [(0, .ref x0), (1, .int x1), (2, .int x2), (3, .int x3), (4, .long x4), (6, .int x6), (7, .int x7)] [] h 0 0 rSl (f_X11_basis_b39_body N K39 h x0 x1 x2 x3 x4 x6 x7) := by
  unfold f_X11_basis_b39_body
  refine a_iload dX11_basis_39 6 rfl ?_
  refine a_aload_n dX11_basis_41 rfl 0 rfl ?_
  refine a_getr kc12 9 dX11_basis_42 (by decide) rfl w_fieldLink_RainCover_57 (fun v7 => ?_)
  refine a_geti kc8 3 dX11_basis_45 (by decide) rfl w_fieldLink_RainCover_306 (fun v8 => ?_)
  refine a_icmp_ge 86 dX11_basis_48 (by decide) (fun c9 => ?_) (fun c9 => ?_)
  · refine a_iload dX11_basis_86 5 rfl ?_
    refine a_if_ne 97 dX11_basis_88 (by decide) (fun c10 => ?_) (fun c10 => ?_)
    · refine a_ldc2 (v := (-9223372036854775808)) dX11_basis_91 w_constantLong_RainCover_327 ?_
      refine a_goto 106 dX11_basis_94 (by decide) ?_
      exact a_lret dX11_basis_106 rfl rfl (by decide) (by decide)
    · refine a_lload dX11_basis_97 4 rfl ?_
      refine a_iload dX11_basis_99 5 rfl ?_
      refine a_i2l dX11_basis_101 ?_
      refine a_iload_n dX11_basis_102 rfl 3 rfl ?_
      refine a_cS_Pl (as := [.long x4, .long (x6 : Int32).toInt64, .int x3]) (st := []) dX11_basis_103 (c_X11_partOf l g h N x4 (x6 : Int32).toInt64 x3) rfl km_X11_partOf (hm_X11_partOf) w_methodLink_RainCover_336 w_static_RainCover_partOf__JJI_J ⟨⟨by decide, by decide⟩, ⟨by decide, by decide⟩⟩ (Nat.le_of_ble_eq_true rfl) (fun v11 => ?_)
      exact a_lret dX11_basis_106 rfl rfl (by decide) (by decide)
  · refine a_aload_n dX11_basis_51 rfl 0 rfl ?_
    refine a_iload dX11_basis_52 6 rfl ?_
    refine a_cV_Pi (r := x0) (ci := 12) (as := [.int x7]) (st := []) dX11_basis_54 (c_X11_bandOf l g h N x0 x7) rfl km_X11_bandOf (hm_X11_bandOf) rfl (by decide) rfl (fun _ ee => g_X11_bandOf ee) w_methodLink_RainCover_329 w_instanceMethod_RainCover_bandOf__I_I w_selects_RainCover_RainCover_bandOf__I_I_RainCover_bandOf__I_I ⟨⟨by decide, by decide⟩, ⟨by decide, by decide⟩⟩ (Nat.le_of_ble_eq_true rfl) (fun v12 => ?_)
    refine a_iload_n dX11_basis_57 rfl 2 rfl ?_
    refine a_icmp_eq 64 dX11_basis_58 (by decide) (fun c13 => ?_) (fun c13 => ?_)
    · refine a_lload dX11_basis_64 4 rfl ?_
      refine a_aload_n dX11_basis_66 rfl 0 rfl ?_
      refine a_iload dX11_basis_67 6 rfl ?_
      refine a_iload_n dX11_basis_69 rfl 1 rfl ?_
      refine a_cV_Si (r := x0) (ci := 12) (as := [.int x7, .int x1]) (st := [.long x4]) dX11_basis_70 (c_X11_missOf l g h N x0 x7 x1) rfl km_X11_missOf (hm_X11_missOf) rfl (by decide) rfl (fun _ ee => g_X11_missOf ee) w_methodLink_RainCover_333 w_instanceMethod_RainCover_missOf__II_I w_selects_RainCover_RainCover_missOf__II_I_RainCover_missOf__II_I ⟨⟨by decide, by decide⟩, ⟨by decide, by decide⟩⟩ (Nat.le_of_ble_eq_true rfl) (fun q14 => ?_)
      refine a_i2l dX11_basis_73 ?_
      refine a_ladd dX11_basis_74 ?_
      refine a_lstore (lc2 := [(4, .long (x4 + (q14.1 : Int32).toInt64)), (0, .ref x0), (1, .int x1), (2, .int x2), (3, .int x3), (6, .int x6), (7, .int x7)]) dX11_basis_75 (by decide) rfl ?_
      refine a_iinc (q := 5) (v := (x6 + 1)) (lc2 := [(6, .int (x6 + 1)), (4, .long (x4 + (q14.1 : Int32).toInt64)), (0, .ref x0), (1, .int x1), (2, .int x2), (3, .int x3), (7, .int x7)]) dX11_basis_77 rfl rfl (by decide) rfl ?_
      refine a_pick (lc2 := [(0, .ref x0), (1, .int x1), (2, .int x2), (3, .int x3), (4, .long (x4 + (q14.1 : Int32).toInt64)), (6, .int (x6 + 1)), (7, .int x7)]) [2, 3, 4, 5, 1, 0, 6] rfl ?_
      exact t_X11_basis_b80 h0 N K39 hK39 q14.2 x0 x1 x2 x3 (x4 + (q14.1 : Int32).toInt64) (x6 + 1) x7
    · refine a_goto 80 dX11_basis_61 (by decide) ?_
      exact t_X11_basis_b80 h0 N K39 hK39 h x0 x1 x2 x3 x4 x6 x7
set_option maxRecDepth 100000 in
set_option maxHeartbeats 4000000 in
theorem t_X11_basis_b39 (h0 : AH) (N : Nat) : ∀ (n : Nat) (h : AH) (x0 : Nat) (x1 : Int32) (x2 : Int32) (x3 : Int32) (x4 : Int64) (x6 : Int32) (x7 : Int32) , AO l g M_X11_basis false h0 39 [(0, .ref x0), (1, .int x1), (2, .int x2), (3, .int x3), (4, .long x4), (6, .int x6), (7, .int x7)] [] h 0 0 rSl (f_X11_basis_b39 N  n h x0 x1 x2 x3 x4 x6 x7) := by
  intro n
  induction n with
  | zero => intro h x0 x1 x2 x3 x4 x6 x7; exact a_eq rfl a_none
  | succ n ih => intro h x0 x1 x2 x3 x4 x6 x7; exact a_eq rfl (t_X11_basis_b39_body h0 N  (f_X11_basis_b39 N  n) ih h x0 x1 x2 x3 x4 x6 x7)
end
set_option maxRecDepth 100000 in
set_option maxHeartbeats 4000000 in
theorem c_X11_basis (l : Launch) (g : GG) (h0 : AH) (N : Nat) (p0 : Nat) (p1 : Int32) (p2 : Int32) (p3 : Int32) : CN l g yX11_basis M_X11_basis false [.ref p0, .int p1, .int p2, .int p3] h0 rSl (f_X11_basis h0 N p0 p1 p2 p3) := by
  refine CN.of (by decide) rfl (fun hh => by first | rfl | cases hh) (Nat.le_of_ble_eq_true rfl) ?_
  unfold f_X11_basis
  refine a_gd (fun hkd => ?_)
  refine a_aload_n dX11_basis_0 rfl 0 rfl ?_
  refine a_iload_n dX11_basis_1 rfl 1 rfl ?_
  refine a_cV_Pi (r := p0) (ci := 12) (as := [.int p1]) (st := []) dX11_basis_2 (c_X11_isTerm l g h0 p0 p1) rfl km_X11_isTerm (hm_X11_isTerm) rfl (by decide) rfl (fun _ ee => g_X11_isTerm ee) w_methodLink_RainCover_219 w_instanceMethod_RainCover_isTerm__I_Z w_selects_RainCover_RainCover_isTerm__I_Z_RainCover_isTerm__I_Z ⟨⟨by decide, by decide⟩, ⟨by decide, by decide⟩⟩ (Nat.le_of_ble_eq_true rfl) (fun v1 => ?_)
  refine a_if_eq 26 dX11_basis_5 (by decide) (fun c2 => ?_) (fun c2 => ?_)
  · refine a_ldc2 (v := (-9223372036854775808)) dX11_basis_26 w_constantLong_RainCover_327 ?_
    exact a_lret dX11_basis_29 rfl rfl (by decide) (by decide)
  · refine a_iload_n dX11_basis_8 rfl 2 rfl ?_
    refine a_iconst (v := 0) dX11_basis_9 (by decide) ?_
    refine a_iconst (v := 3) dX11_basis_10 (by decide) ?_
    refine a_cS_Pi (as := [.int p2, .int 0, .int 3]) (st := []) dX11_basis_11 (c_X11_within l g h0 p2 0 3) rfl km_X11_within (hm_X11_within) w_methodLink_RainCover_120 w_static_RainCover_within__III_Z ⟨⟨by decide, by decide⟩, ⟨by decide, by decide⟩⟩ (Nat.le_of_ble_eq_true rfl) (fun v3 => ?_)
    refine a_if_eq 26 dX11_basis_14 (by decide) (fun c4 => ?_) (fun c4 => ?_)
    · refine a_ldc2 (v := (-9223372036854775808)) dX11_basis_26 w_constantLong_RainCover_327 ?_
      exact a_lret dX11_basis_29 rfl rfl (by decide) (by decide)
    · refine a_iload_n dX11_basis_17 rfl 3 rfl ?_
      refine a_iconst (v := 0) dX11_basis_18 (by decide) ?_
      refine a_iconst (v := 1) dX11_basis_19 (by decide) ?_
      refine a_cS_Pi (as := [.int p3, .int 0, .int 1]) (st := []) dX11_basis_20 (c_X11_within l g h0 p3 0 1) rfl km_X11_within (hm_X11_within) w_methodLink_RainCover_120 w_static_RainCover_within__III_Z ⟨⟨by decide, by decide⟩, ⟨by decide, by decide⟩⟩ (Nat.le_of_ble_eq_true rfl) (fun v5 => ?_)
      refine a_if_ne 30 dX11_basis_23 (by decide) (fun c6 => ?_) (fun c6 => ?_)
      · refine a_ldc2 (v := (-9223372036854775808)) dX11_basis_26 w_constantLong_RainCover_327 ?_
        exact a_lret dX11_basis_29 rfl rfl (by decide) (by decide)
      · refine a_lconst (v := 0) dX11_basis_30 (by decide) ?_
        refine a_lstore (lc2 := [(4, .long 0), (0, .ref p0), (1, .int p1), (2, .int p2), (3, .int p3)]) dX11_basis_31 (by decide) rfl ?_
        refine a_iconst (v := 0) dX11_basis_33 (by decide) ?_
        refine a_istore (lc2 := [(6, .int 0), (4, .long 0), (0, .ref p0), (1, .int p1), (2, .int p2), (3, .int p3)]) dX11_basis_34 (by decide) rfl ?_
        refine a_iconst (v := 0) dX11_basis_36 (by decide) ?_
        refine a_istore (lc2 := [(7, .int 0), (6, .int 0), (4, .long 0), (0, .ref p0), (1, .int p1), (2, .int p2), (3, .int p3)]) dX11_basis_37 (by decide) rfl ?_
        refine a_pick (lc2 := [(0, .ref p0), (1, .int p1), (2, .int p2), (3, .int p3), (4, .long 0), (6, .int 0), (7, .int 0)]) [3, 4, 5, 6, 2, 1, 0] rfl ?_
        exact t_X11_basis_b39 h0 N N h0 p0 p1 p2 p3 0 0 0
theorem dX11_site_0 : decode cX11_site 0 = .ok (.iload_n 1, 1) := by decide +kernel
theorem dX11_site_1 : decode cX11_site 1 = .ok (.iload_n 2, 1) := by decide +kernel
theorem dX11_site_2 : decode cX11_site 2 = .ok (.invokestatic 96, 3) := by decide +kernel
theorem dX11_site_5 : decode cX11_site 5 = .ok (.ifCond .ne 6, 3) := by decide +kernel
theorem dX11_site_8 : decode cX11_site 8 = .ok (.bipush (-2), 2) := by decide +kernel
theorem dX11_site_10 : decode cX11_site 10 = .ok (.ireturn, 1) := by decide +kernel
theorem dX11_site_11 : decode cX11_site 11 = .ok (.aload_n 0, 1) := by decide +kernel
theorem dX11_site_12 : decode cX11_site 12 = .ok (.getfield 24, 3) := by decide +kernel
theorem dX11_site_15 : decode cX11_site 15 = .ok (.invokevirtual 104, 3) := by decide +kernel
theorem dX11_site_18 : decode cX11_site 18 = .ok (.bipush 8, 2) := by decide +kernel
theorem dX11_site_20 : decode cX11_site 20 = .ok (.if_icmp .lt 6, 3) := by decide +kernel
theorem dX11_site_23 : decode cX11_site 23 = .ok (.bipush (-4), 2) := by decide +kernel
theorem dX11_site_25 : decode cX11_site 25 = .ok (.ireturn, 1) := by decide +kernel
theorem dX11_site_26 : decode cX11_site 26 = .ok (.aload_n 0, 1) := by decide +kernel
theorem dX11_site_27 : decode cX11_site 27 = .ok (.getfield 24, 3) := by decide +kernel
theorem dX11_site_30 : decode cX11_site 30 = .ok (.new 108, 3) := by decide +kernel
theorem dX11_site_33 : decode cX11_site 33 = .ok (.dup, 1) := by decide +kernel
theorem dX11_site_34 : decode cX11_site 34 = .ok (.iload_n 1, 1) := by decide +kernel
theorem dX11_site_35 : decode cX11_site 35 = .ok (.iload_n 2, 1) := by decide +kernel
theorem dX11_site_36 : decode cX11_site 36 = .ok (.iconst 0, 1) := by decide +kernel
theorem dX11_site_37 : decode cX11_site 37 = .ok (.invokespecial 110, 3) := by decide +kernel
theorem dX11_site_40 : decode cX11_site 40 = .ok (.invokevirtual 113, 3) := by decide +kernel
theorem dX11_site_43 : decode cX11_site 43 = .ok (.pop, 1) := by decide +kernel
theorem dX11_site_44 : decode cX11_site 44 = .ok (.aload_n 0, 1) := by decide +kernel
theorem dX11_site_45 : decode cX11_site 45 = .ok (.getfield 24, 3) := by decide +kernel
theorem dX11_site_48 : decode cX11_site 48 = .ok (.invokevirtual 104, 3) := by decide +kernel
theorem dX11_site_51 : decode cX11_site 51 = .ok (.iconst 1, 1) := by decide +kernel
theorem dX11_site_52 : decode cX11_site 52 = .ok (.isub, 1) := by decide +kernel
theorem dX11_site_53 : decode cX11_site 53 = .ok (.ireturn, 1) := by decide +kernel
abbrev M_X11_site : MI := (RX11, cX11_site, 3, (some .int), ({ frames := 7, cells := 2, slots := 44, locals := 161 } : Room), 2, 44, false)
def f_X11_site (h0 : AH) (p0 : Nat) (p1 : Int32) (p2 : Int32) : Option (Int32 × AH) := if kd h0 p0 = 12 + 1 then (f_X11_isPlace h0 p1 p2).bind fun v1 => (if v1 = 0 then some ((-2), h0) else (xgr h0 p0 12 3).bind fun v3 => (f_Jx4a65c_size_8abf5 h0 v3).bind fun v4 => (if v4 < 8 then (xgr h0 p0 12 3).bind fun v6 => (gl h0 [p0, v6]).bind fun _ => (xnw h0 (210 + (fi h0 v6 2).toNatClampNeg) 4).bind fun h7 => (f_X3_init h7 (210 + (fi h0 v6 2).toNatClampNeg) p1 p2 0).bind fun q8 => (gl q8 [p0]).bind fun _ => (f_Jx4a65c_add_9ea2d q8 v6 (210 + (fi h0 v6 2).toNatClampNeg)).bind fun q9 => (xgr q9.2 p0 12 3).bind fun v10 => (f_Jx4a65c_size_8abf5 q9.2 v10).bind fun v11 => some ((v11 - 1), q9.2) else some ((-4), h0))) else none
theorem g_X11_site {h0 : AH} {p0 : Nat} {p1 : Int32} {p2 : Int32} {x : (Int32 × AH)} (e : f_X11_site h0 p0 p1 p2 = some x) : kd h0 p0 = 12 + 1 := by
  unfold f_X11_site at e
  by_cases hk : kd h0 p0 = 12 + 1
  · exact hk
  · rw [if_neg hk] at e
    cases e
theorem km_X11_site : KM yX11_site M_X11_site 2 := ⟨in_tb 872 (by decide +kernel) rfl, in_tb 1 (by decide +kernel) rfl, by decide +kernel, rfl, rfl⟩
section
variable {l : Launch} {g : GG}
end
set_option maxRecDepth 100000 in
set_option maxHeartbeats 4000000 in
theorem c_X11_site (l : Launch) (g : GG) (h0 : AH) (p0 : Nat) (p1 : Int32) (p2 : Int32) : CN l g yX11_site M_X11_site true [.ref p0, .int p1, .int p2] h0 rSi (f_X11_site h0 p0 p1 p2) := by
  refine CN.of (by decide) rfl (fun hh => by first | rfl | cases hh) (Nat.le_of_ble_eq_true rfl) ?_
  unfold f_X11_site
  refine a_gd (fun hkd => ?_)
  refine a_iload_n dX11_site_0 rfl 1 rfl ?_
  refine a_iload_n dX11_site_1 rfl 2 rfl ?_
  refine a_cS_Pi (as := [.int p1, .int p2]) (st := []) dX11_site_2 (c_X11_isPlace l g h0 p1 p2) rfl km_X11_isPlace (hm_X11_isPlace) w_methodLink_RainCover_96 w_static_RainCover_isPlace__II_Z ⟨⟨by decide, by decide⟩, ⟨by decide, by decide⟩⟩ (Nat.le_of_ble_eq_true rfl) (fun v1 => ?_)
  refine a_if_ne 11 dX11_site_5 (by decide) (fun c2 => ?_) (fun c2 => ?_)
  · refine a_bipush (v := (-2)) dX11_site_8 (by decide) ?_
    exact a_iret dX11_site_10 rfl rfl (by decide) (by decide)
  · refine a_aload_n dX11_site_11 rfl 0 rfl ?_
    refine a_getr kc12 3 dX11_site_12 (by decide) rfl w_fieldLink_RainCover_24 (fun v3 => ?_)
    refine a_cV_Pi (r := v3) (ci := 0) (as := []) (st := []) dX11_site_15 (c_Jx4a65c_size_8abf5 l g h0 v3) rfl km_Jx4a65c_size_8abf5 (hm_Jx4a65c_size_8abf5) rfl (by decide) rfl (fun _ ee => g_Jx4a65c_size_8abf5 ee) w_methodLink_RainCover_104 w_instanceMethod_java_util_ArrayList_size___I w_selects_java_util_ArrayList_java_util_ArrayList_size___I_java_util_ArrayList_size___I ⟨⟨by decide, by decide⟩, ⟨by decide, by decide⟩⟩ (Nat.le_of_ble_eq_true rfl) (fun v4 => ?_)
    refine a_bipush (v := 8) dX11_site_18 (by decide) ?_
    refine a_icmp_lt 26 dX11_site_20 (by decide) (fun c5 => ?_) (fun c5 => ?_)
    · refine a_aload_n dX11_site_26 rfl 0 rfl ?_
      refine a_getr kc12 3 dX11_site_27 (by decide) rfl w_fieldLink_RainCover_24 (fun v6 => ?_)
      refine a_new (r := (210 + (fi h0 v6 2).toNatClampNeg)) kc4 [p0, v6] rfl dX11_site_30 (by decide +kernel) w_classLink_RainCover_108 w_instantiable_RainCover_Gauge w_initialized_RainCover_Gauge (by decide) (by decide) (fun h7 => ?_)
      refine a_widen 1 4 (by decide) (by decide) ?_
      refine a_dup dX11_site_33 rfl ?_
      refine a_iload_n dX11_site_34 rfl 1 rfl ?_
      refine a_iload_n dX11_site_35 rfl 2 rfl ?_
      refine a_iconst (v := 0) dX11_site_36 (by decide) ?_
      refine a_cI_Sv (r := (210 + (fi h0 v6 2).toNatClampNeg)) (as := [.int p1, .int p2, .int 0]) (st := [.ref (210 + (fi h0 v6 2).toNatClampNeg), .ref v6]) dX11_site_37 (c_X3_init l g h7 (210 + (fi h0 v6 2).toNatClampNeg) p1 p2 0) rfl km_X3_init (hm_X3_init) rfl rfl w_methodLink_RainCover_110 w_instanceMethod_RainCover_Gauge__init___III_V ⟨⟨by decide, by decide⟩, ⟨by decide, by decide⟩⟩ (Nat.le_of_ble_eq_true rfl) (fun q8 => ?_)
      refine a_xV_Si (r := v6) (ci := 0) (as := [.ref (210 + (fi h0 v6 2).toNatClampNeg)]) (st := []) dX11_site_40 [p0] rfl (c_Jx4a65c_add_9ea2d l g q8 v6 (210 + (fi h0 v6 2).toNatClampNeg)) rfl km_Jx4a65c_add_9ea2d rfl (by decide) rfl (fun _ ee => g_Jx4a65c_add_9ea2d ee) w_methodLink_RainCover_113 w_instanceMethod_java_util_ArrayList_add__Ljava_lang_Object__Z w_selects_java_util_ArrayList_java_util_ArrayList_add__Ljava_lang_Object__Z_java_util_ArrayList_add__Ljava_lang_Object__Z ⟨⟨by decide, by decide⟩, ⟨by decide, by decide⟩⟩ (Nat.le_of_ble_eq_true rfl) (fun q9 => ?_)
      refine a_widen 2 44 (by decide) (by decide) ?_
      refine a_pop dX11_site_43 rfl ?_
      refine a_aload_n dX11_site_44 rfl 0 rfl ?_
      refine a_getr kc12 3 dX11_site_45 (by decide) rfl w_fieldLink_RainCover_24 (fun v10 => ?_)
      refine a_cV_Pi (r := v10) (ci := 0) (as := []) (st := []) dX11_site_48 (c_Jx4a65c_size_8abf5 l g q9.2 v10) rfl km_Jx4a65c_size_8abf5 (hm_Jx4a65c_size_8abf5) rfl (by decide) rfl (fun _ ee => g_Jx4a65c_size_8abf5 ee) w_methodLink_RainCover_104 w_instanceMethod_java_util_ArrayList_size___I w_selects_java_util_ArrayList_java_util_ArrayList_size___I_java_util_ArrayList_size___I ⟨⟨by decide, by decide⟩, ⟨by decide, by decide⟩⟩ (Nat.le_of_ble_eq_true rfl) (fun v11 => ?_)
      refine a_iconst (v := 1) dX11_site_51 (by decide) ?_
      refine a_isub dX11_site_52 ?_
      exact a_iret dX11_site_53 rfl rfl (by decide) (by decide)
    · refine a_bipush (v := (-4)) dX11_site_23 (by decide) ?_
      exact a_iret dX11_site_25 rfl rfl (by decide) (by decide)
theorem dX11_gatherGaugeDistances_0 : decode cX11_gatherGaugeDistances 0 = .ok (.iconst 0, 1) := by decide +kernel
theorem dX11_gatherGaugeDistances_1 : decode cX11_gatherGaugeDistances 1 = .ok (.istore_n 1, 1) := by decide +kernel
theorem dX11_gatherGaugeDistances_2 : decode cX11_gatherGaugeDistances 2 = .ok (.iload_n 1, 1) := by decide +kernel
theorem dX11_gatherGaugeDistances_3 : decode cX11_gatherGaugeDistances 3 = .ok (.aload_n 0, 1) := by decide +kernel
theorem dX11_gatherGaugeDistances_4 : decode cX11_gatherGaugeDistances 4 = .ok (.getfield 21, 3) := by decide +kernel
theorem dX11_gatherGaugeDistances_7 : decode cX11_gatherGaugeDistances 7 = .ok (.invokevirtual 104, 3) := by decide +kernel
theorem dX11_gatherGaugeDistances_10 : decode cX11_gatherGaugeDistances 10 = .ok (.if_icmp .ge 32, 3) := by decide +kernel
theorem dX11_gatherGaugeDistances_13 : decode cX11_gatherGaugeDistances 13 = .ok (.aload_n 0, 1) := by decide +kernel
theorem dX11_gatherGaugeDistances_14 : decode cX11_gatherGaugeDistances 14 = .ok (.getfield 93, 3) := by decide +kernel
theorem dX11_gatherGaugeDistances_17 : decode cX11_gatherGaugeDistances 17 = .ok (.iload_n 1, 1) := by decide +kernel
theorem dX11_gatherGaugeDistances_18 : decode cX11_gatherGaugeDistances 18 = .ok (.aload_n 0, 1) := by decide +kernel
theorem dX11_gatherGaugeDistances_19 : decode cX11_gatherGaugeDistances 19 = .ok (.aload_n 0, 1) := by decide +kernel
theorem dX11_gatherGaugeDistances_20 : decode cX11_gatherGaugeDistances 20 = .ok (.getfield 21, 3) := by decide +kernel
theorem dX11_gatherGaugeDistances_23 : decode cX11_gatherGaugeDistances 23 = .ok (.iload_n 1, 1) := by decide +kernel
theorem dX11_gatherGaugeDistances_24 : decode cX11_gatherGaugeDistances 24 = .ok (.invokevirtual 124, 3) := by decide +kernel
theorem dX11_gatherGaugeDistances_27 : decode cX11_gatherGaugeDistances 27 = .ok (.checkcast 233, 3) := by decide +kernel
theorem dX11_gatherGaugeDistances_30 : decode cX11_gatherGaugeDistances 30 = .ok (.bipush 15, 2) := by decide +kernel
theorem dX11_gatherGaugeDistances_32 : decode cX11_gatherGaugeDistances 32 = .ok (.invokevirtual 279, 3) := by decide +kernel
theorem dX11_gatherGaugeDistances_35 : decode cX11_gatherGaugeDistances 35 = .ok (.iastore, 1) := by decide +kernel
theorem dX11_gatherGaugeDistances_36 : decode cX11_gatherGaugeDistances 36 = .ok (.iinc 1 1, 3) := by decide +kernel
theorem dX11_gatherGaugeDistances_39 : decode cX11_gatherGaugeDistances 39 = .ok (.goto (-37), 3) := by decide +kernel
theorem dX11_gatherGaugeDistances_42 : decode cX11_gatherGaugeDistances 42 = .ok (.return_, 1) := by decide +kernel
abbrev M_X11_gatherGaugeDistances : MI := (RX11, cX11_gatherGaugeDistances, 2, none, ({ frames := 5, cells := 0, slots := 0, locals := 115 } : Room), 0, 0, false)
def f_X11_gatherGaugeDistances_b2_body (N : Nat) (K2 : AH → Nat → Int32 → Option AH) (h : AH) (x0 : Nat) (x1 : Int32) : Option AH := (xgr h x0 12 2).bind fun v1 => (f_Jx4a65c_size_8abf5 h v1).bind fun v2 => (if v2 ≤ x1 then some h else (xgr h x0 12 19).bind fun v4 => (xgr h x0 12 2).bind fun v5 => (f_Jx4a65c_get_915e3 h v5 x1).bind fun v6 => (xcc h v6 3).bind fun _ => (f_X11_distanceToGauge h N x0 v6 15).bind fun v7 => (xis h v4 x1 v7).bind fun h8 => K2 h8 x0 (x1 + 1))
def f_X11_gatherGaugeDistances_b2 (N : Nat) : Nat → AH → Nat → Int32 → Option AH
  | 0, _, _, _ => none
  | n + 1, h, x0, x1 => f_X11_gatherGaugeDistances_b2_body N  (f_X11_gatherGaugeDistances_b2 N  n) h x0 x1
def f_X11_gatherGaugeDistances (h0 : AH) (N : Nat) (p0 : Nat) : Option AH := if kd h0 p0 = 12 + 1 then f_X11_gatherGaugeDistances_b2 N N h0 p0 0 else none
theorem g_X11_gatherGaugeDistances {h0 : AH} {N : Nat} {p0 : Nat} {x : AH} (e : f_X11_gatherGaugeDistances h0 N p0 = some x) : kd h0 p0 = 12 + 1 := by
  unfold f_X11_gatherGaugeDistances at e
  by_cases hk : kd h0 p0 = 12 + 1
  · exact hk
  · rw [if_neg hk] at e
    cases e
theorem km_X11_gatherGaugeDistances : KM yX11_gatherGaugeDistances M_X11_gatherGaugeDistances 0 := ⟨in_tb 880 (by decide +kernel) rfl, in_tb 1 (by decide +kernel) rfl, by decide +kernel, rfl, rfl⟩
theorem hm_X11_gatherGaugeDistances : M_X11_gatherGaugeDistances.2.2.2.2.2.1 = 0 ∧ M_X11_gatherGaugeDistances.2.2.2.2.2.2.1 = 0 := ⟨rfl, rfl⟩
section
variable {l : Launch} {g : GG}
set_option maxRecDepth 100000 in
set_option maxHeartbeats 4000000 in
theorem t_X11_gatherGaugeDistances_b2_body (h0 : AH) (N : Nat) (K2 : AH → Nat → Int32 → Option AH) (hK2 : ∀ (z : AH) (z0 : Nat) (z1 : Int32), AO l g M_X11_gatherGaugeDistances false h0 2 [(0, .ref z0), (1, .int z1)] [] z 0 0 rSv (K2 z z0 z1)) (h : AH) (x0 : Nat) (x1 : Int32) : AO l g M_X11_gatherGaugeDistances false h0 2 [(0, .ref x0), (1, .int x1)] [] h 0 0 rSv (f_X11_gatherGaugeDistances_b2_body N K2 h x0 x1) := by
  unfold f_X11_gatherGaugeDistances_b2_body
  refine a_iload_n dX11_gatherGaugeDistances_2 rfl 1 rfl ?_
  refine a_aload_n dX11_gatherGaugeDistances_3 rfl 0 rfl ?_
  refine a_getr kc12 2 dX11_gatherGaugeDistances_4 (by decide) rfl w_fieldLink_RainCover_21 (fun v1 => ?_)
  refine a_cV_Pi (r := v1) (ci := 0) (as := []) (st := [.int x1]) dX11_gatherGaugeDistances_7 (c_Jx4a65c_size_8abf5 l g h v1) rfl km_Jx4a65c_size_8abf5 (hm_Jx4a65c_size_8abf5) rfl (by decide) rfl (fun _ ee => g_Jx4a65c_size_8abf5 ee) w_methodLink_RainCover_104 w_instanceMethod_java_util_ArrayList_size___I w_selects_java_util_ArrayList_java_util_ArrayList_size___I_java_util_ArrayList_size___I ⟨⟨by decide, by decide⟩, ⟨by decide, by decide⟩⟩ (Nat.le_of_ble_eq_true rfl) (fun v2 => ?_)
  refine a_icmp_ge 42 dX11_gatherGaugeDistances_10 (by decide) (fun c3 => ?_) (fun c3 => ?_)
  · exact a_vret dX11_gatherGaugeDistances_42 rfl rfl (by decide) (by decide)
  · refine a_aload_n dX11_gatherGaugeDistances_13 rfl 0 rfl ?_
    refine a_getr kc12 19 dX11_gatherGaugeDistances_14 (by decide) rfl w_fieldLink_RainCover_93 (fun v4 => ?_)
    refine a_iload_n dX11_gatherGaugeDistances_17 rfl 1 rfl ?_
    refine a_aload_n dX11_gatherGaugeDistances_18 rfl 0 rfl ?_
    refine a_aload_n dX11_gatherGaugeDistances_19 rfl 0 rfl ?_
    refine a_getr kc12 2 dX11_gatherGaugeDistances_20 (by decide) rfl w_fieldLink_RainCover_21 (fun v5 => ?_)
    refine a_iload_n dX11_gatherGaugeDistances_23 rfl 1 rfl ?_
    refine a_cV_Pr (r := v5) (ci := 0) (as := [.int x1]) (st := [.ref x0, .int x1, .ref v4]) dX11_gatherGaugeDistances_24 (c_Jx4a65c_get_915e3 l g h v5 x1) rfl km_Jx4a65c_get_915e3 (hm_Jx4a65c_get_915e3) rfl (by decide) rfl (fun _ ee => g_Jx4a65c_get_915e3 ee) w_methodLink_RainCover_124 w_instanceMethod_java_util_ArrayList_get__I_Ljava_lang_Object_ w_selects_java_util_ArrayList_java_util_ArrayList_get__I_Ljava_lang_Object__java_util_ArrayList_get__I_Ljava_lang_Object_ ⟨⟨by decide, by decide⟩, ⟨by decide, by decide⟩⟩ (Nat.le_of_ble_eq_true rfl) (fun v6 => ?_)
    refine a_cast kc3 dX11_gatherGaugeDistances_27 w_classLink_RainCover_233 ?_
    refine a_bipush (v := 15) dX11_gatherGaugeDistances_30 (by decide) ?_
    refine a_cV_Pi (r := x0) (ci := 12) (as := [.ref v6, .int 15]) (st := [.int x1, .ref v4]) dX11_gatherGaugeDistances_32 (c_X11_distanceToGauge l g h N x0 v6 15) rfl km_X11_distanceToGauge (hm_X11_distanceToGauge) rfl (by decide) rfl (fun _ ee => g_X11_distanceToGauge ee) w_methodLink_RainCover_279 w_instanceMethod_RainCover_distanceToGauge__LRainCover_Farm_I_I w_selects_RainCover_RainCover_distanceToGauge__LRainCover_Farm_I_I_RainCover_distanceToGauge__LRainCover_Farm_I_I ⟨⟨by decide, by decide⟩, ⟨by decide, by decide⟩⟩ (Nat.le_of_ble_eq_true rfl) (fun v7 => ?_)
    refine a_iast dX11_gatherGaugeDistances_35 (fun h8 => ?_)
    refine a_iinc (q := 1) (v := (x1 + 1)) (lc2 := [(1, .int (x1 + 1)), (0, .ref x0)]) dX11_gatherGaugeDistances_36 rfl rfl (by decide) rfl ?_
    refine a_goto 2 dX11_gatherGaugeDistances_39 (by decide) ?_
    refine a_pick (lc2 := [(0, .ref x0), (1, .int (x1 + 1))]) [1, 0] rfl ?_
    exact hK2 h8 x0 (x1 + 1)
set_option maxRecDepth 100000 in
set_option maxHeartbeats 4000000 in
theorem t_X11_gatherGaugeDistances_b2 (h0 : AH) (N : Nat) : ∀ (n : Nat) (h : AH) (x0 : Nat) (x1 : Int32) , AO l g M_X11_gatherGaugeDistances false h0 2 [(0, .ref x0), (1, .int x1)] [] h 0 0 rSv (f_X11_gatherGaugeDistances_b2 N  n h x0 x1) := by
  intro n
  induction n with
  | zero => intro h x0 x1; exact a_eq rfl a_none
  | succ n ih => intro h x0 x1; exact a_eq rfl (t_X11_gatherGaugeDistances_b2_body h0 N  (f_X11_gatherGaugeDistances_b2 N  n) ih h x0 x1)
end
set_option maxRecDepth 100000 in
set_option maxHeartbeats 4000000 in
theorem c_X11_gatherGaugeDistances (l : Launch) (g : GG) (h0 : AH) (N : Nat) (p0 : Nat) : CN l g yX11_gatherGaugeDistances M_X11_gatherGaugeDistances false [.ref p0] h0 rSv (f_X11_gatherGaugeDistances h0 N p0) := by
  refine CN.of (by decide) rfl (fun hh => by first | rfl | cases hh) (Nat.le_of_ble_eq_true rfl) ?_
  unfold f_X11_gatherGaugeDistances
  refine a_gd (fun hkd => ?_)
  refine a_iconst (v := 0) dX11_gatherGaugeDistances_0 (by decide) ?_
  refine a_istore_n (lc2 := [(1, .int 0), (0, .ref p0)]) dX11_gatherGaugeDistances_1 rfl (by decide) rfl ?_
  refine a_pick (lc2 := [(0, .ref p0), (1, .int 0)]) [1, 0] rfl ?_
  exact t_X11_gatherGaugeDistances_b2 h0 N N h0 p0 0
theorem dJ6_bitCount_0f7a4_0 : decode cJ6_bitCount_0f7a4 0 = .ok (.iload_n 0, 1) := by decide +kernel
theorem dJ6_bitCount_0f7a4_1 : decode cJ6_bitCount_0f7a4 1 = .ok (.iload_n 0, 1) := by decide +kernel
theorem dJ6_bitCount_0f7a4_2 : decode cJ6_bitCount_0f7a4 2 = .ok (.iconst 1, 1) := by decide +kernel
theorem dJ6_bitCount_0f7a4_3 : decode cJ6_bitCount_0f7a4 3 = .ok (.iushr, 1) := by decide +kernel
theorem dJ6_bitCount_0f7a4_4 : decode cJ6_bitCount_0f7a4 4 = .ok (.ldc_w 265, 3) := by decide +kernel
theorem dJ6_bitCount_0f7a4_7 : decode cJ6_bitCount_0f7a4 7 = .ok (.iand, 1) := by decide +kernel
theorem dJ6_bitCount_0f7a4_8 : decode cJ6_bitCount_0f7a4 8 = .ok (.isub, 1) := by decide +kernel
theorem dJ6_bitCount_0f7a4_9 : decode cJ6_bitCount_0f7a4 9 = .ok (.istore_n 0, 1) := by decide +kernel
theorem dJ6_bitCount_0f7a4_10 : decode cJ6_bitCount_0f7a4 10 = .ok (.iload_n 0, 1) := by decide +kernel
theorem dJ6_bitCount_0f7a4_11 : decode cJ6_bitCount_0f7a4 11 = .ok (.ldc_w 266, 3) := by decide +kernel
theorem dJ6_bitCount_0f7a4_14 : decode cJ6_bitCount_0f7a4 14 = .ok (.iand, 1) := by decide +kernel
theorem dJ6_bitCount_0f7a4_15 : decode cJ6_bitCount_0f7a4 15 = .ok (.iload_n 0, 1) := by decide +kernel
theorem dJ6_bitCount_0f7a4_16 : decode cJ6_bitCount_0f7a4 16 = .ok (.iconst 2, 1) := by decide +kernel
theorem dJ6_bitCount_0f7a4_17 : decode cJ6_bitCount_0f7a4 17 = .ok (.iushr, 1) := by decide +kernel
theorem dJ6_bitCount_0f7a4_18 : decode cJ6_bitCount_0f7a4 18 = .ok (.ldc_w 266, 3) := by decide +kernel
theorem dJ6_bitCount_0f7a4_21 : decode cJ6_bitCount_0f7a4 21 = .ok (.iand, 1) := by decide +kernel
theorem dJ6_bitCount_0f7a4_22 : decode cJ6_bitCount_0f7a4 22 = .ok (.iadd, 1) := by decide +kernel
theorem dJ6_bitCount_0f7a4_23 : decode cJ6_bitCount_0f7a4 23 = .ok (.istore_n 0, 1) := by decide +kernel
theorem dJ6_bitCount_0f7a4_24 : decode cJ6_bitCount_0f7a4 24 = .ok (.iload_n 0, 1) := by decide +kernel
theorem dJ6_bitCount_0f7a4_25 : decode cJ6_bitCount_0f7a4 25 = .ok (.iload_n 0, 1) := by decide +kernel
theorem dJ6_bitCount_0f7a4_26 : decode cJ6_bitCount_0f7a4 26 = .ok (.iconst 4, 1) := by decide +kernel
theorem dJ6_bitCount_0f7a4_27 : decode cJ6_bitCount_0f7a4 27 = .ok (.iushr, 1) := by decide +kernel
theorem dJ6_bitCount_0f7a4_28 : decode cJ6_bitCount_0f7a4 28 = .ok (.iadd, 1) := by decide +kernel
theorem dJ6_bitCount_0f7a4_29 : decode cJ6_bitCount_0f7a4 29 = .ok (.ldc_w 267, 3) := by decide +kernel
theorem dJ6_bitCount_0f7a4_32 : decode cJ6_bitCount_0f7a4 32 = .ok (.iand, 1) := by decide +kernel
theorem dJ6_bitCount_0f7a4_33 : decode cJ6_bitCount_0f7a4 33 = .ok (.istore_n 0, 1) := by decide +kernel
theorem dJ6_bitCount_0f7a4_34 : decode cJ6_bitCount_0f7a4 34 = .ok (.iload_n 0, 1) := by decide +kernel
theorem dJ6_bitCount_0f7a4_35 : decode cJ6_bitCount_0f7a4 35 = .ok (.iload_n 0, 1) := by decide +kernel
theorem dJ6_bitCount_0f7a4_36 : decode cJ6_bitCount_0f7a4 36 = .ok (.bipush 8, 2) := by decide +kernel
theorem dJ6_bitCount_0f7a4_38 : decode cJ6_bitCount_0f7a4 38 = .ok (.iushr, 1) := by decide +kernel
theorem dJ6_bitCount_0f7a4_39 : decode cJ6_bitCount_0f7a4 39 = .ok (.iadd, 1) := by decide +kernel
theorem dJ6_bitCount_0f7a4_40 : decode cJ6_bitCount_0f7a4 40 = .ok (.istore_n 0, 1) := by decide +kernel
theorem dJ6_bitCount_0f7a4_41 : decode cJ6_bitCount_0f7a4 41 = .ok (.iload_n 0, 1) := by decide +kernel
theorem dJ6_bitCount_0f7a4_42 : decode cJ6_bitCount_0f7a4 42 = .ok (.iload_n 0, 1) := by decide +kernel
theorem dJ6_bitCount_0f7a4_43 : decode cJ6_bitCount_0f7a4 43 = .ok (.bipush 16, 2) := by decide +kernel
theorem dJ6_bitCount_0f7a4_45 : decode cJ6_bitCount_0f7a4 45 = .ok (.iushr, 1) := by decide +kernel
theorem dJ6_bitCount_0f7a4_46 : decode cJ6_bitCount_0f7a4 46 = .ok (.iadd, 1) := by decide +kernel
theorem dJ6_bitCount_0f7a4_47 : decode cJ6_bitCount_0f7a4 47 = .ok (.istore_n 0, 1) := by decide +kernel
theorem dJ6_bitCount_0f7a4_48 : decode cJ6_bitCount_0f7a4 48 = .ok (.iload_n 0, 1) := by decide +kernel
theorem dJ6_bitCount_0f7a4_49 : decode cJ6_bitCount_0f7a4 49 = .ok (.bipush 63, 2) := by decide +kernel
theorem dJ6_bitCount_0f7a4_51 : decode cJ6_bitCount_0f7a4 51 = .ok (.iand, 1) := by decide +kernel
theorem dJ6_bitCount_0f7a4_52 : decode cJ6_bitCount_0f7a4 52 = .ok (.ireturn, 1) := by decide +kernel
abbrev M_J6_bitCount_0f7a4 : MI := (RJ6, cJ6_bitCount_0f7a4, 1, (some .int), ({ frames := 0, cells := 0, slots := 0, locals := 0 } : Room), 0, 0, false)
def f_J6_bitCount_0f7a4 (h : AH) (p0 : Int32) : Option Int32 := some ((((((((p0 - ((((p0 : Int32).toUInt32 >>> ((1 : Int32).toUInt32 &&& Int32.toUInt32 31)).toInt32) &&& 1431655765)) &&& 858993459) + (((((p0 - ((((p0 : Int32).toUInt32 >>> ((1 : Int32).toUInt32 &&& Int32.toUInt32 31)).toInt32) &&& 1431655765)) : Int32).toUInt32 >>> ((2 : Int32).toUInt32 &&& Int32.toUInt32 31)).toInt32) &&& 858993459)) + ((((((p0 - ((((p0 : Int32).toUInt32 >>> ((1 : Int32).toUInt32 &&& Int32.toUInt32 31)).toInt32) &&& 1431655765)) &&& 858993459) + (((((p0 - ((((p0 : Int32).toUInt32 >>> ((1 : Int32).toUInt32 &&& Int32.toUInt32 31)).toInt32) &&& 1431655765)) : Int32).toUInt32 >>> ((2 : Int32).toUInt32 &&& Int32.toUInt32 31)).toInt32) &&& 858993459)) : Int32).toUInt32 >>> ((4 : Int32).toUInt32 &&& Int32.toUInt32 31)).toInt32)) &&& 252645135) + ((((((((p0 - ((((p0 : Int32).toUInt32 >>> ((1 : Int32).toUInt32 &&& Int32.toUInt32 31)).toInt32) &&& 1431655765)) &&& 858993459) + (((((p0 - ((((p0 : Int32).toUInt32 >>> ((1 : Int32).toUInt32 &&& Int32.toUInt32 31)).toInt32) &&& 1431655765)) : Int32).toUInt32 >>> ((2 : Int32).toUInt32 &&& Int32.toUInt32 31)).toInt32) &&& 858993459)) + ((((((p0 - ((((p0 : Int32).toUInt32 >>> ((1 : Int32).toUInt32 &&& Int32.toUInt32 31)).toInt32) &&& 1431655765)) &&& 858993459) + (((((p0 - ((((p0 : Int32).toUInt32 >>> ((1 : Int32).toUInt32 &&& Int32.toUInt32 31)).toInt32) &&& 1431655765)) : Int32).toUInt32 >>> ((2 : Int32).toUInt32 &&& Int32.toUInt32 31)).toInt32) &&& 858993459)) : Int32).toUInt32 >>> ((4 : Int32).toUInt32 &&& Int32.toUInt32 31)).toInt32)) &&& 252645135) : Int32).toUInt32 >>> ((8 : Int32).toUInt32 &&& Int32.toUInt32 31)).toInt32)) + (((((((((p0 - ((((p0 : Int32).toUInt32 >>> ((1 : Int32).toUInt32 &&& Int32.toUInt32 31)).toInt32) &&& 1431655765)) &&& 858993459) + (((((p0 - ((((p0 : Int32).toUInt32 >>> ((1 : Int32).toUInt32 &&& Int32.toUInt32 31)).toInt32) &&& 1431655765)) : Int32).toUInt32 >>> ((2 : Int32).toUInt32 &&& Int32.toUInt32 31)).toInt32) &&& 858993459)) + ((((((p0 - ((((p0 : Int32).toUInt32 >>> ((1 : Int32).toUInt32 &&& Int32.toUInt32 31)).toInt32) &&& 1431655765)) &&& 858993459) + (((((p0 - ((((p0 : Int32).toUInt32 >>> ((1 : Int32).toUInt32 &&& Int32.toUInt32 31)).toInt32) &&& 1431655765)) : Int32).toUInt32 >>> ((2 : Int32).toUInt32 &&& Int32.toUInt32 31)).toInt32) &&& 858993459)) : Int32).toUInt32 >>> ((4 : Int32).toUInt32 &&& Int32.toUInt32 31)).toInt32)) &&& 252645135) + ((((((((p0 - ((((p0 : Int32).toUInt32 >>> ((1 : Int32).toUInt32 &&& Int32.toUInt32 31)).toInt32) &&& 1431655765)) &&& 858993459) + (((((p0 - ((((p0 : Int32).toUInt32 >>> ((1 : Int32).toUInt32 &&& Int32.toUInt32 31)).toInt32) &&& 1431655765)) : Int32).toUInt32 >>> ((2 : Int32).toUInt32 &&& Int32.toUInt32 31)).toInt32) &&& 858993459)) + ((((((p0 - ((((p0 : Int32).toUInt32 >>> ((1 : Int32).toUInt32 &&& Int32.toUInt32 31)).toInt32) &&& 1431655765)) &&& 858993459) + (((((p0 - ((((p0 : Int32).toUInt32 >>> ((1 : Int32).toUInt32 &&& Int32.toUInt32 31)).toInt32) &&& 1431655765)) : Int32).toUInt32 >>> ((2 : Int32).toUInt32 &&& Int32.toUInt32 31)).toInt32) &&& 858993459)) : Int32).toUInt32 >>> ((4 : Int32).toUInt32 &&& Int32.toUInt32 31)).toInt32)) &&& 252645135) : Int32).toUInt32 >>> ((8 : Int32).toUInt32 &&& Int32.toUInt32 31)).toInt32)) : Int32).toUInt32 >>> ((16 : Int32).toUInt32 &&& Int32.toUInt32 31)).toInt32)) &&& 63)
theorem km_J6_bitCount_0f7a4 : KM yJ6_bitCount_0f7a4 M_J6_bitCount_0f7a4 1 := ⟨in_tb 883 (by decide +kernel) rfl, in_tb 26 (by decide +kernel) rfl, by decide +kernel, rfl, rfl⟩
theorem hm_J6_bitCount_0f7a4 : M_J6_bitCount_0f7a4.2.2.2.2.2.1 = 0 ∧ M_J6_bitCount_0f7a4.2.2.2.2.2.2.1 = 0 := ⟨rfl, rfl⟩
section
variable {l : Launch} {g : GG}
end
set_option maxRecDepth 100000 in
set_option maxHeartbeats 4000000 in
theorem c_J6_bitCount_0f7a4 (l : Launch) (g : GG) (h : AH) (p0 : Int32) : CN l g yJ6_bitCount_0f7a4 M_J6_bitCount_0f7a4 false [.int p0] h ((rPi h)) (f_J6_bitCount_0f7a4 h p0) := by
  refine CN.of (by decide) rfl (fun hh => by first | rfl | cases hh) (Nat.le_of_ble_eq_true rfl) ?_
  unfold f_J6_bitCount_0f7a4
  refine a_iload_n dJ6_bitCount_0f7a4_0 rfl 0 rfl ?_
  refine a_iload_n dJ6_bitCount_0f7a4_1 rfl 0 rfl ?_
  refine a_iconst (v := 1) dJ6_bitCount_0f7a4_2 (by decide) ?_
  refine a_iushr dJ6_bitCount_0f7a4_3 ?_
  refine a_ldcw (v := 1431655765) dJ6_bitCount_0f7a4_4 w_constant_java_lang_Integer_265 ?_
  refine a_iand dJ6_bitCount_0f7a4_7 ?_
  refine a_isub dJ6_bitCount_0f7a4_8 ?_
  refine a_istore_n (lc2 := [(0, .int (p0 - ((((p0 : Int32).toUInt32 >>> ((1 : Int32).toUInt32 &&& Int32.toUInt32 31)).toInt32) &&& 1431655765)))]) dJ6_bitCount_0f7a4_9 rfl (by decide) rfl ?_
  refine a_iload_n dJ6_bitCount_0f7a4_10 rfl 0 rfl ?_
  refine a_ldcw (v := 858993459) dJ6_bitCount_0f7a4_11 w_constant_java_lang_Integer_266 ?_
  refine a_iand dJ6_bitCount_0f7a4_14 ?_
  refine a_iload_n dJ6_bitCount_0f7a4_15 rfl 0 rfl ?_
  refine a_iconst (v := 2) dJ6_bitCount_0f7a4_16 (by decide) ?_
  refine a_iushr dJ6_bitCount_0f7a4_17 ?_
  refine a_ldcw (v := 858993459) dJ6_bitCount_0f7a4_18 w_constant_java_lang_Integer_266 ?_
  refine a_iand dJ6_bitCount_0f7a4_21 ?_
  refine a_iadd dJ6_bitCount_0f7a4_22 ?_
  refine a_istore_n (lc2 := [(0, .int (((p0 - ((((p0 : Int32).toUInt32 >>> ((1 : Int32).toUInt32 &&& Int32.toUInt32 31)).toInt32) &&& 1431655765)) &&& 858993459) + (((((p0 - ((((p0 : Int32).toUInt32 >>> ((1 : Int32).toUInt32 &&& Int32.toUInt32 31)).toInt32) &&& 1431655765)) : Int32).toUInt32 >>> ((2 : Int32).toUInt32 &&& Int32.toUInt32 31)).toInt32) &&& 858993459)))]) dJ6_bitCount_0f7a4_23 rfl (by decide) rfl ?_
  refine a_iload_n dJ6_bitCount_0f7a4_24 rfl 0 rfl ?_
  refine a_iload_n dJ6_bitCount_0f7a4_25 rfl 0 rfl ?_
  refine a_iconst (v := 4) dJ6_bitCount_0f7a4_26 (by decide) ?_
  refine a_iushr dJ6_bitCount_0f7a4_27 ?_
  refine a_iadd dJ6_bitCount_0f7a4_28 ?_
  refine a_ldcw (v := 252645135) dJ6_bitCount_0f7a4_29 w_constant_java_lang_Integer_267 ?_
  refine a_iand dJ6_bitCount_0f7a4_32 ?_
  refine a_istore_n (lc2 := [(0, .int (((((p0 - ((((p0 : Int32).toUInt32 >>> ((1 : Int32).toUInt32 &&& Int32.toUInt32 31)).toInt32) &&& 1431655765)) &&& 858993459) + (((((p0 - ((((p0 : Int32).toUInt32 >>> ((1 : Int32).toUInt32 &&& Int32.toUInt32 31)).toInt32) &&& 1431655765)) : Int32).toUInt32 >>> ((2 : Int32).toUInt32 &&& Int32.toUInt32 31)).toInt32) &&& 858993459)) + ((((((p0 - ((((p0 : Int32).toUInt32 >>> ((1 : Int32).toUInt32 &&& Int32.toUInt32 31)).toInt32) &&& 1431655765)) &&& 858993459) + (((((p0 - ((((p0 : Int32).toUInt32 >>> ((1 : Int32).toUInt32 &&& Int32.toUInt32 31)).toInt32) &&& 1431655765)) : Int32).toUInt32 >>> ((2 : Int32).toUInt32 &&& Int32.toUInt32 31)).toInt32) &&& 858993459)) : Int32).toUInt32 >>> ((4 : Int32).toUInt32 &&& Int32.toUInt32 31)).toInt32)) &&& 252645135))]) dJ6_bitCount_0f7a4_33 rfl (by decide) rfl ?_
  refine a_iload_n dJ6_bitCount_0f7a4_34 rfl 0 rfl ?_
  refine a_iload_n dJ6_bitCount_0f7a4_35 rfl 0 rfl ?_
  refine a_bipush (v := 8) dJ6_bitCount_0f7a4_36 (by decide) ?_
  refine a_iushr dJ6_bitCount_0f7a4_38 ?_
  refine a_iadd dJ6_bitCount_0f7a4_39 ?_
  refine a_istore_n (lc2 := [(0, .int ((((((p0 - ((((p0 : Int32).toUInt32 >>> ((1 : Int32).toUInt32 &&& Int32.toUInt32 31)).toInt32) &&& 1431655765)) &&& 858993459) + (((((p0 - ((((p0 : Int32).toUInt32 >>> ((1 : Int32).toUInt32 &&& Int32.toUInt32 31)).toInt32) &&& 1431655765)) : Int32).toUInt32 >>> ((2 : Int32).toUInt32 &&& Int32.toUInt32 31)).toInt32) &&& 858993459)) + ((((((p0 - ((((p0 : Int32).toUInt32 >>> ((1 : Int32).toUInt32 &&& Int32.toUInt32 31)).toInt32) &&& 1431655765)) &&& 858993459) + (((((p0 - ((((p0 : Int32).toUInt32 >>> ((1 : Int32).toUInt32 &&& Int32.toUInt32 31)).toInt32) &&& 1431655765)) : Int32).toUInt32 >>> ((2 : Int32).toUInt32 &&& Int32.toUInt32 31)).toInt32) &&& 858993459)) : Int32).toUInt32 >>> ((4 : Int32).toUInt32 &&& Int32.toUInt32 31)).toInt32)) &&& 252645135) + ((((((((p0 - ((((p0 : Int32).toUInt32 >>> ((1 : Int32).toUInt32 &&& Int32.toUInt32 31)).toInt32) &&& 1431655765)) &&& 858993459) + (((((p0 - ((((p0 : Int32).toUInt32 >>> ((1 : Int32).toUInt32 &&& Int32.toUInt32 31)).toInt32) &&& 1431655765)) : Int32).toUInt32 >>> ((2 : Int32).toUInt32 &&& Int32.toUInt32 31)).toInt32) &&& 858993459)) + ((((((p0 - ((((p0 : Int32).toUInt32 >>> ((1 : Int32).toUInt32 &&& Int32.toUInt32 31)).toInt32) &&& 1431655765)) &&& 858993459) + (((((p0 - ((((p0 : Int32).toUInt32 >>> ((1 : Int32).toUInt32 &&& Int32.toUInt32 31)).toInt32) &&& 1431655765)) : Int32).toUInt32 >>> ((2 : Int32).toUInt32 &&& Int32.toUInt32 31)).toInt32) &&& 858993459)) : Int32).toUInt32 >>> ((4 : Int32).toUInt32 &&& Int32.toUInt32 31)).toInt32)) &&& 252645135) : Int32).toUInt32 >>> ((8 : Int32).toUInt32 &&& Int32.toUInt32 31)).toInt32)))]) dJ6_bitCount_0f7a4_40 rfl (by decide) rfl ?_
  refine a_iload_n dJ6_bitCount_0f7a4_41 rfl 0 rfl ?_
  refine a_iload_n dJ6_bitCount_0f7a4_42 rfl 0 rfl ?_
  refine a_bipush (v := 16) dJ6_bitCount_0f7a4_43 (by decide) ?_
  refine a_iushr dJ6_bitCount_0f7a4_45 ?_
  refine a_iadd dJ6_bitCount_0f7a4_46 ?_
  refine a_istore_n (lc2 := [(0, .int (((((((p0 - ((((p0 : Int32).toUInt32 >>> ((1 : Int32).toUInt32 &&& Int32.toUInt32 31)).toInt32) &&& 1431655765)) &&& 858993459) + (((((p0 - ((((p0 : Int32).toUInt32 >>> ((1 : Int32).toUInt32 &&& Int32.toUInt32 31)).toInt32) &&& 1431655765)) : Int32).toUInt32 >>> ((2 : Int32).toUInt32 &&& Int32.toUInt32 31)).toInt32) &&& 858993459)) + ((((((p0 - ((((p0 : Int32).toUInt32 >>> ((1 : Int32).toUInt32 &&& Int32.toUInt32 31)).toInt32) &&& 1431655765)) &&& 858993459) + (((((p0 - ((((p0 : Int32).toUInt32 >>> ((1 : Int32).toUInt32 &&& Int32.toUInt32 31)).toInt32) &&& 1431655765)) : Int32).toUInt32 >>> ((2 : Int32).toUInt32 &&& Int32.toUInt32 31)).toInt32) &&& 858993459)) : Int32).toUInt32 >>> ((4 : Int32).toUInt32 &&& Int32.toUInt32 31)).toInt32)) &&& 252645135) + ((((((((p0 - ((((p0 : Int32).toUInt32 >>> ((1 : Int32).toUInt32 &&& Int32.toUInt32 31)).toInt32) &&& 1431655765)) &&& 858993459) + (((((p0 - ((((p0 : Int32).toUInt32 >>> ((1 : Int32).toUInt32 &&& Int32.toUInt32 31)).toInt32) &&& 1431655765)) : Int32).toUInt32 >>> ((2 : Int32).toUInt32 &&& Int32.toUInt32 31)).toInt32) &&& 858993459)) + ((((((p0 - ((((p0 : Int32).toUInt32 >>> ((1 : Int32).toUInt32 &&& Int32.toUInt32 31)).toInt32) &&& 1431655765)) &&& 858993459) + (((((p0 - ((((p0 : Int32).toUInt32 >>> ((1 : Int32).toUInt32 &&& Int32.toUInt32 31)).toInt32) &&& 1431655765)) : Int32).toUInt32 >>> ((2 : Int32).toUInt32 &&& Int32.toUInt32 31)).toInt32) &&& 858993459)) : Int32).toUInt32 >>> ((4 : Int32).toUInt32 &&& Int32.toUInt32 31)).toInt32)) &&& 252645135) : Int32).toUInt32 >>> ((8 : Int32).toUInt32 &&& Int32.toUInt32 31)).toInt32)) + (((((((((p0 - ((((p0 : Int32).toUInt32 >>> ((1 : Int32).toUInt32 &&& Int32.toUInt32 31)).toInt32) &&& 1431655765)) &&& 858993459) + (((((p0 - ((((p0 : Int32).toUInt32 >>> ((1 : Int32).toUInt32 &&& Int32.toUInt32 31)).toInt32) &&& 1431655765)) : Int32).toUInt32 >>> ((2 : Int32).toUInt32 &&& Int32.toUInt32 31)).toInt32) &&& 858993459)) + ((((((p0 - ((((p0 : Int32).toUInt32 >>> ((1 : Int32).toUInt32 &&& Int32.toUInt32 31)).toInt32) &&& 1431655765)) &&& 858993459) + (((((p0 - ((((p0 : Int32).toUInt32 >>> ((1 : Int32).toUInt32 &&& Int32.toUInt32 31)).toInt32) &&& 1431655765)) : Int32).toUInt32 >>> ((2 : Int32).toUInt32 &&& Int32.toUInt32 31)).toInt32) &&& 858993459)) : Int32).toUInt32 >>> ((4 : Int32).toUInt32 &&& Int32.toUInt32 31)).toInt32)) &&& 252645135) + ((((((((p0 - ((((p0 : Int32).toUInt32 >>> ((1 : Int32).toUInt32 &&& Int32.toUInt32 31)).toInt32) &&& 1431655765)) &&& 858993459) + (((((p0 - ((((p0 : Int32).toUInt32 >>> ((1 : Int32).toUInt32 &&& Int32.toUInt32 31)).toInt32) &&& 1431655765)) : Int32).toUInt32 >>> ((2 : Int32).toUInt32 &&& Int32.toUInt32 31)).toInt32) &&& 858993459)) + ((((((p0 - ((((p0 : Int32).toUInt32 >>> ((1 : Int32).toUInt32 &&& Int32.toUInt32 31)).toInt32) &&& 1431655765)) &&& 858993459) + (((((p0 - ((((p0 : Int32).toUInt32 >>> ((1 : Int32).toUInt32 &&& Int32.toUInt32 31)).toInt32) &&& 1431655765)) : Int32).toUInt32 >>> ((2 : Int32).toUInt32 &&& Int32.toUInt32 31)).toInt32) &&& 858993459)) : Int32).toUInt32 >>> ((4 : Int32).toUInt32 &&& Int32.toUInt32 31)).toInt32)) &&& 252645135) : Int32).toUInt32 >>> ((8 : Int32).toUInt32 &&& Int32.toUInt32 31)).toInt32)) : Int32).toUInt32 >>> ((16 : Int32).toUInt32 &&& Int32.toUInt32 31)).toInt32)))]) dJ6_bitCount_0f7a4_47 rfl (by decide) rfl ?_
  refine a_iload_n dJ6_bitCount_0f7a4_48 rfl 0 rfl ?_
  refine a_bipush (v := 63) dJ6_bitCount_0f7a4_49 (by decide) ?_
  refine a_iand dJ6_bitCount_0f7a4_51 ?_
  exact a_iret dJ6_bitCount_0f7a4_52 rfl rfl (by decide) (by decide)
theorem dX11_hasSite_0 : decode cX11_hasSite 0 = .ok (.iload_n 0, 1) := by decide +kernel
theorem dX11_hasSite_1 : decode cX11_hasSite 1 = .ok (.bipush 7, 2) := by decide +kernel
theorem dX11_hasSite_3 : decode cX11_hasSite 3 = .ok (.iload_n 1, 1) := by decide +kernel
theorem dX11_hasSite_4 : decode cX11_hasSite 4 = .ok (.isub, 1) := by decide +kernel
theorem dX11_hasSite_5 : decode cX11_hasSite 5 = .ok (.ishr, 1) := by decide +kernel
theorem dX11_hasSite_6 : decode cX11_hasSite 6 = .ok (.iconst 1, 1) := by decide +kernel
theorem dX11_hasSite_7 : decode cX11_hasSite 7 = .ok (.iand, 1) := by decide +kernel
theorem dX11_hasSite_8 : decode cX11_hasSite 8 = .ok (.iconst 1, 1) := by decide +kernel
theorem dX11_hasSite_9 : decode cX11_hasSite 9 = .ok (.if_icmp .ne 7, 3) := by decide +kernel
theorem dX11_hasSite_12 : decode cX11_hasSite 12 = .ok (.iconst 1, 1) := by decide +kernel
theorem dX11_hasSite_13 : decode cX11_hasSite 13 = .ok (.goto 4, 3) := by decide +kernel
theorem dX11_hasSite_16 : decode cX11_hasSite 16 = .ok (.iconst 0, 1) := by decide +kernel
theorem dX11_hasSite_17 : decode cX11_hasSite 17 = .ok (.ireturn, 1) := by decide +kernel
abbrev M_X11_hasSite : MI := (RX11, cX11_hasSite, 2, (some .boolean), ({ frames := 0, cells := 0, slots := 0, locals := 0 } : Room), 0, 0, false)
def f_X11_hasSite (h : AH) (p0 : Int32) (p1 : Int32) : Option Int32 := (if ((p0 >>> ((7 - p1) &&& 31)) &&& 1) = 1 then some 1 else some 0)
theorem km_X11_hasSite : KM yX11_hasSite M_X11_hasSite 2 := ⟨in_tb 893 (by decide +kernel) rfl, in_tb 1 (by decide +kernel) rfl, by decide +kernel, rfl, rfl⟩
theorem hm_X11_hasSite : M_X11_hasSite.2.2.2.2.2.1 = 0 ∧ M_X11_hasSite.2.2.2.2.2.2.1 = 0 := ⟨rfl, rfl⟩
section
variable {l : Launch} {g : GG}
end
set_option maxRecDepth 100000 in
set_option maxHeartbeats 4000000 in
theorem c_X11_hasSite (l : Launch) (g : GG) (h : AH) (p0 : Int32) (p1 : Int32) : CN l g yX11_hasSite M_X11_hasSite false [.int p0, .int p1] h ((rPi h)) (f_X11_hasSite h p0 p1) := by
  refine CN.of (by decide) rfl (fun hh => by first | rfl | cases hh) (Nat.le_of_ble_eq_true rfl) ?_
  unfold f_X11_hasSite
  refine a_iload_n dX11_hasSite_0 rfl 0 rfl ?_
  refine a_bipush (v := 7) dX11_hasSite_1 (by decide) ?_
  refine a_iload_n dX11_hasSite_3 rfl 1 rfl ?_
  refine a_isub dX11_hasSite_4 ?_
  refine a_ishr dX11_hasSite_5 ?_
  refine a_iconst (v := 1) dX11_hasSite_6 (by decide) ?_
  refine a_iand dX11_hasSite_7 ?_
  refine a_iconst (v := 1) dX11_hasSite_8 (by decide) ?_
  refine a_icmp_ne 16 dX11_hasSite_9 (by decide) (fun c1 => ?_) (fun c1 => ?_)
  · refine a_iconst (v := 1) dX11_hasSite_12 (by decide) ?_
    refine a_goto 17 dX11_hasSite_13 (by decide) ?_
    exact a_zret dX11_hasSite_17 rfl (Or.inr rfl) rfl (by decide) (by decide)
  · refine a_iconst (v := 0) dX11_hasSite_16 (by decide) ?_
    exact a_zret dX11_hasSite_17 rfl (Or.inl rfl) rfl (by decide) (by decide)
theorem dX11_farFor_0 : decode cX11_farFor 0 = .ok (.iconst 0, 1) := by decide +kernel
theorem dX11_farFor_1 : decode cX11_farFor 1 = .ok (.istore_n 2, 1) := by decide +kernel
theorem dX11_farFor_2 : decode cX11_farFor 2 = .ok (.iconst 0, 1) := by decide +kernel
theorem dX11_farFor_3 : decode cX11_farFor 3 = .ok (.istore_n 3, 1) := by decide +kernel
theorem dX11_farFor_4 : decode cX11_farFor 4 = .ok (.iload_n 3, 1) := by decide +kernel
theorem dX11_farFor_5 : decode cX11_farFor 5 = .ok (.aload_n 0, 1) := by decide +kernel
theorem dX11_farFor_6 : decode cX11_farFor 6 = .ok (.getfield 21, 3) := by decide +kernel
theorem dX11_farFor_9 : decode cX11_farFor 9 = .ok (.invokevirtual 104, 3) := by decide +kernel
theorem dX11_farFor_12 : decode cX11_farFor 12 = .ok (.if_icmp .ge 142, 3) := by decide +kernel
theorem dX11_farFor_15 : decode cX11_farFor 15 = .ok (.aload_n 0, 1) := by decide +kernel
theorem dX11_farFor_16 : decode cX11_farFor 16 = .ok (.getfield 21, 3) := by decide +kernel
theorem dX11_farFor_19 : decode cX11_farFor 19 = .ok (.iload_n 3, 1) := by decide +kernel
theorem dX11_farFor_20 : decode cX11_farFor 20 = .ok (.invokevirtual 124, 3) := by decide +kernel
theorem dX11_farFor_23 : decode cX11_farFor 23 = .ok (.checkcast 233, 3) := by decide +kernel
theorem dX11_farFor_26 : decode cX11_farFor 26 = .ok (.astore 4, 2) := by decide +kernel
theorem dX11_farFor_28 : decode cX11_farFor 28 = .ok (.aload_n 0, 1) := by decide +kernel
theorem dX11_farFor_29 : decode cX11_farFor 29 = .ok (.getfield 93, 3) := by decide +kernel
theorem dX11_farFor_32 : decode cX11_farFor 32 = .ok (.iload_n 3, 1) := by decide +kernel
theorem dX11_farFor_33 : decode cX11_farFor 33 = .ok (.iaload, 1) := by decide +kernel
theorem dX11_farFor_34 : decode cX11_farFor 34 = .ok (.istore 5, 2) := by decide +kernel
theorem dX11_farFor_36 : decode cX11_farFor 36 = .ok (.iconst 0, 1) := by decide +kernel
theorem dX11_farFor_37 : decode cX11_farFor 37 = .ok (.istore 6, 2) := by decide +kernel
theorem dX11_farFor_39 : decode cX11_farFor 39 = .ok (.iload 6, 2) := by decide +kernel
theorem dX11_farFor_41 : decode cX11_farFor 41 = .ok (.aload_n 0, 1) := by decide +kernel
theorem dX11_farFor_42 : decode cX11_farFor 42 = .ok (.getfield 24, 3) := by decide +kernel
theorem dX11_farFor_45 : decode cX11_farFor 45 = .ok (.invokevirtual 104, 3) := by decide +kernel
theorem dX11_farFor_48 : decode cX11_farFor 48 = .ok (.if_icmp .ge 83, 3) := by decide +kernel
theorem dX11_farFor_51 : decode cX11_farFor 51 = .ok (.iload_n 1, 1) := by decide +kernel
theorem dX11_farFor_52 : decode cX11_farFor 52 = .ok (.iload 6, 2) := by decide +kernel
theorem dX11_farFor_54 : decode cX11_farFor 54 = .ok (.invokestatic 365, 3) := by decide +kernel
theorem dX11_farFor_57 : decode cX11_farFor 57 = .ok (.ifCond .ne 6, 3) := by decide +kernel
theorem dX11_farFor_60 : decode cX11_farFor 60 = .ok (.goto 65, 3) := by decide +kernel
theorem dX11_farFor_63 : decode cX11_farFor 63 = .ok (.aload 4, 2) := by decide +kernel
theorem dX11_farFor_65 : decode cX11_farFor 65 = .ok (.getfield 304, 3) := by decide +kernel
theorem dX11_farFor_68 : decode cX11_farFor 68 = .ok (.aload 4, 2) := by decide +kernel
theorem dX11_farFor_70 : decode cX11_farFor 70 = .ok (.getfield 305, 3) := by decide +kernel
theorem dX11_farFor_73 : decode cX11_farFor 73 = .ok (.aload_n 0, 1) := by decide +kernel
theorem dX11_farFor_74 : decode cX11_farFor 74 = .ok (.getfield 24, 3) := by decide +kernel
theorem dX11_farFor_77 : decode cX11_farFor 77 = .ok (.iload 6, 2) := by decide +kernel
theorem dX11_farFor_79 : decode cX11_farFor 79 = .ok (.invokevirtual 124, 3) := by decide +kernel
theorem dX11_farFor_82 : decode cX11_farFor 82 = .ok (.checkcast 108, 3) := by decide +kernel
theorem dX11_farFor_85 : decode cX11_farFor 85 = .ok (.getfield 182, 3) := by decide +kernel
theorem dX11_farFor_88 : decode cX11_farFor 88 = .ok (.aload_n 0, 1) := by decide +kernel
theorem dX11_farFor_89 : decode cX11_farFor 89 = .ok (.getfield 24, 3) := by decide +kernel
theorem dX11_farFor_92 : decode cX11_farFor 92 = .ok (.iload 6, 2) := by decide +kernel
theorem dX11_farFor_94 : decode cX11_farFor 94 = .ok (.invokevirtual 124, 3) := by decide +kernel
theorem dX11_farFor_97 : decode cX11_farFor 97 = .ok (.checkcast 108, 3) := by decide +kernel
theorem dX11_farFor_100 : decode cX11_farFor 100 = .ok (.getfield 185, 3) := by decide +kernel
theorem dX11_farFor_103 : decode cX11_farFor 103 = .ok (.invokestatic 188, 3) := by decide +kernel
theorem dX11_farFor_106 : decode cX11_farFor 106 = .ok (.istore 7, 2) := by decide +kernel
theorem dX11_farFor_108 : decode cX11_farFor 108 = .ok (.iload 5, 2) := by decide +kernel
theorem dX11_farFor_110 : decode cX11_farFor 110 = .ok (.iconst (-1), 1) := by decide +kernel
theorem dX11_farFor_111 : decode cX11_farFor 111 = .ok (.if_icmp .eq 10, 3) := by decide +kernel
theorem dX11_farFor_114 : decode cX11_farFor 114 = .ok (.iload 7, 2) := by decide +kernel
theorem dX11_farFor_116 : decode cX11_farFor 116 = .ok (.iload 5, 2) := by decide +kernel
theorem dX11_farFor_118 : decode cX11_farFor 118 = .ok (.if_icmp .ge 7, 3) := by decide +kernel
theorem dX11_farFor_121 : decode cX11_farFor 121 = .ok (.iload 7, 2) := by decide +kernel
theorem dX11_farFor_123 : decode cX11_farFor 123 = .ok (.istore 5, 2) := by decide +kernel
theorem dX11_farFor_125 : decode cX11_farFor 125 = .ok (.iinc 6 1, 3) := by decide +kernel
theorem dX11_farFor_128 : decode cX11_farFor 128 = .ok (.goto (-89), 3) := by decide +kernel
theorem dX11_farFor_131 : decode cX11_farFor 131 = .ok (.iload 5, 2) := by decide +kernel
theorem dX11_farFor_133 : decode cX11_farFor 133 = .ok (.iconst (-1), 1) := by decide +kernel
theorem dX11_farFor_134 : decode cX11_farFor 134 = .ok (.if_icmp .eq 14, 3) := by decide +kernel
theorem dX11_farFor_137 : decode cX11_farFor 137 = .ok (.iload_n 2, 1) := by decide +kernel
theorem dX11_farFor_138 : decode cX11_farFor 138 = .ok (.aload 4, 2) := by decide +kernel
theorem dX11_farFor_140 : decode cX11_farFor 140 = .ok (.getfield 321, 3) := by decide +kernel
theorem dX11_farFor_143 : decode cX11_farFor 143 = .ok (.iload 5, 2) := by decide +kernel
theorem dX11_farFor_145 : decode cX11_farFor 145 = .ok (.imul, 1) := by decide +kernel
theorem dX11_farFor_146 : decode cX11_farFor 146 = .ok (.iadd, 1) := by decide +kernel
theorem dX11_farFor_147 : decode cX11_farFor 147 = .ok (.istore_n 2, 1) := by decide +kernel
theorem dX11_farFor_148 : decode cX11_farFor 148 = .ok (.iinc 3 1, 3) := by decide +kernel
theorem dX11_farFor_151 : decode cX11_farFor 151 = .ok (.goto (-147), 3) := by decide +kernel
theorem dX11_farFor_154 : decode cX11_farFor 154 = .ok (.iload_n 2, 1) := by decide +kernel
theorem dX11_farFor_155 : decode cX11_farFor 155 = .ok (.ireturn, 1) := by decide +kernel
abbrev M_X11_farFor : MI := (RX11, cX11_farFor, 8, (some .int), ({ frames := 3, cells := 0, slots := 0, locals := 64 } : Room), 0, 0, false)
def f_X11_farFor_b125 (h : AH) (N : Nat) (K4 : Nat → Int32 → Int32 → Int32 → Option Int32) (K39 : Nat → Int32 → Int32 → Int32 → Nat → Int32 → Int32 → Option Int32) (x0 : Nat) (x1 : Int32) (x2 : Int32) (x3 : Int32) (x4 : Nat) (x5 : Int32) (x6 : Int32) : Option Int32 := K39 x0 x1 x2 x3 x4 x5 (x6 + 1)
def f_X11_farFor_b121 (h : AH) (N : Nat) (K4 : Nat → Int32 → Int32 → Int32 → Option Int32) (K39 : Nat → Int32 → Int32 → Int32 → Nat → Int32 → Int32 → Option Int32) (x0 : Nat) (x1 : Int32) (x2 : Int32) (x3 : Int32) (x4 : Nat) (x6 : Int32) (x7 : Int32) : Option Int32 := f_X11_farFor_b125 h N K4 K39 x0 x1 x2 x3 x4 x7 x6
def f_X11_farFor_b148 (h : AH) (N : Nat) (K4 : Nat → Int32 → Int32 → Int32 → Option Int32) (x0 : Nat) (x1 : Int32) (x2 : Int32) (x3 : Int32) : Option Int32 := K4 x0 x1 x2 (x3 + 1)
def f_X11_farFor_b39_body (h : AH) (N : Nat) (K4 : Nat → Int32 → Int32 → Int32 → Option Int32) (K39 : Nat → Int32 → Int32 → Int32 → Nat → Int32 → Int32 → Option Int32) (x0 : Nat) (x1 : Int32) (x2 : Int32) (x3 : Int32) (x4 : Nat) (x5 : Int32) (x6 : Int32) : Option Int32 := (xgr h x0 12 3).bind fun v8 => (f_Jx4a65c_size_8abf5 h v8).bind fun v9 => (if v9 ≤ x6 then (if x5 = (-1) then f_X11_farFor_b148 h N K4 x0 x1 x2 x3 else (xgi h x4 3 3).bind fun v12 => f_X11_farFor_b148 h N K4 x0 x1 (x2 + (v12 * x5)) x3) else (f_X11_hasSite h x1 x6).bind fun v13 => (if v13 = 0 then f_X11_farFor_b125 h N K4 K39 x0 x1 x2 x3 x4 x5 x6 else (xgi h x4 3 1).bind fun v15 => (xgi h x4 3 2).bind fun v16 => (xgr h x0 12 3).bind fun v17 => (f_Jx4a65c_get_915e3 h v17 x6).bind fun v18 => (xcc h v18 4).bind fun _ => (xgi h v18 4 0).bind fun v19 => (xgr h x0 12 3).bind fun v20 => (f_Jx4a65c_get_915e3 h v20 x6).bind fun v21 => (xcc h v21 4).bind fun _ => (xgi h v21 4 1).bind fun v22 => (f_X11_distance h v15 v16 v19 v22).bind fun v23 => (if x5 = (-1) then f_X11_farFor_b121 h N K4 K39 x0 x1 x2 x3 x4 x6 v23 else (if x5 ≤ v23 then f_X11_farFor_b125 h N K4 K39 x0 x1 x2 x3 x4 x5 x6 else f_X11_farFor_b121 h N K4 K39 x0 x1 x2 x3 x4 x6 v23))))
def f_X11_farFor_b39 (h : AH) (N : Nat) (K4 : Nat → Int32 → Int32 → Int32 → Option Int32) : Nat → Nat → Int32 → Int32 → Int32 → Nat → Int32 → Int32 → Option Int32
  | 0, _, _, _, _, _, _, _ => none
  | n + 1, x0, x1, x2, x3, x4, x5, x6 => f_X11_farFor_b39_body h N K4 (f_X11_farFor_b39 h N K4 n) x0 x1 x2 x3 x4 x5 x6
def f_X11_farFor_b4_body (h : AH) (N : Nat) (K4 : Nat → Int32 → Int32 → Int32 → Option Int32) (x0 : Nat) (x1 : Int32) (x2 : Int32) (x3 : Int32) : Option Int32 := (xgr h x0 12 2).bind fun v1 => (f_Jx4a65c_size_8abf5 h v1).bind fun v2 => (if v2 ≤ x3 then some x2 else (xgr h x0 12 2).bind fun v4 => (f_Jx4a65c_get_915e3 h v4 x3).bind fun v5 => (xcc h v5 3).bind fun _ => (xgr h x0 12 19).bind fun v6 => (xia h v6 x3).bind fun v7 => f_X11_farFor_b39 h N K4 N x0 x1 x2 x3 v5 v7 0)
def f_X11_farFor_b4 (h : AH) (N : Nat) : Nat → Nat → Int32 → Int32 → Int32 → Option Int32
  | 0, _, _, _, _ => none
  | n + 1, x0, x1, x2, x3 => f_X11_farFor_b4_body h N  (f_X11_farFor_b4 h N  n) x0 x1 x2 x3
def f_X11_farFor (h : AH) (N : Nat) (p0 : Nat) (p1 : Int32) : Option Int32 := if kd h p0 = 12 + 1 then f_X11_farFor_b4 h N N p0 p1 0 0 else none
theorem g_X11_farFor {h : AH} {N : Nat} {p0 : Nat} {p1 : Int32} {x : Int32} (e : f_X11_farFor h N p0 p1 = some x) : kd h p0 = 12 + 1 := by
  unfold f_X11_farFor at e
  by_cases hk : kd h p0 = 12 + 1
  · exact hk
  · rw [if_neg hk] at e
    cases e
theorem km_X11_farFor : KM yX11_farFor M_X11_farFor 1 := ⟨in_tb 890 (by decide +kernel) rfl, in_tb 1 (by decide +kernel) rfl, by decide +kernel, rfl, rfl⟩
theorem hm_X11_farFor : M_X11_farFor.2.2.2.2.2.1 = 0 ∧ M_X11_farFor.2.2.2.2.2.2.1 = 0 := ⟨rfl, rfl⟩
section
variable {l : Launch} {g : GG}
set_option maxRecDepth 100000 in
set_option maxHeartbeats 4000000 in
theorem t_X11_farFor_b125 (h : AH) (N : Nat) (K4 : Nat → Int32 → Int32 → Int32 → Option Int32) (hK4 : ∀ (z0 : Nat) (z1 : Int32) (z2 : Int32) (z3 : Int32), AO l g M_X11_farFor false h 4 [(0, .ref z0), (1, .int z1), (2, .int z2), (3, .int z3)] [] h 0 0 (rPi h) (K4 z0 z1 z2 z3)) (K39 : Nat → Int32 → Int32 → Int32 → Nat → Int32 → Int32 → Option Int32) (hK39 : ∀ (z0 : Nat) (z1 : Int32) (z2 : Int32) (z3 : Int32) (z4 : Nat) (z5 : Int32) (z6 : Int32), AO l g M_X11_farFor false h 39 [(0, .ref z0), (1, .int z1), (2, .int z2), (3, .int z3), (4, .ref z4), (5, .int z5), (6, .int z6)] [] h 0 0 (rPi h) (K39 z0 z1 z2 z3 z4 z5 z6)) (x0 : Nat) (x1 : Int32) (x2 : Int32) (x3 : Int32) (x4 : Nat) (x5 : Int32) (x6 : Int32) : AO l g M_X11_farFor false h 125 [(0, .ref x0), (1, .int x1), (2, .int x2), (3, .int x3), (4, .ref x4), (5, .int x5), (6, .int x6)] [] h 0 0 (rPi h) (f_X11_farFor_b125 h N K4 K39 x0 x1 x2 x3 x4 x5 x6) := by
  unfold f_X11_farFor_b125
  refine a_iinc (q := 6) (v := (x6 + 1)) (lc2 := [(6, .int (x6 + 1)), (0, .ref x0), (1, .int x1), (2, .int x2), (3, .int x3), (4, .ref x4), (5, .int x5)]) dX11_farFor_125 rfl rfl (by decide) rfl ?_
  refine a_goto 39 dX11_farFor_128 (by decide) ?_
  refine a_pick (lc2 := [(0, .ref x0), (1, .int x1), (2, .int x2), (3, .int x3), (4, .ref x4), (5, .int x5), (6, .int (x6 + 1))]) [1, 2, 3, 4, 5, 6, 0] rfl ?_
  exact hK39 x0 x1 x2 x3 x4 x5 (x6 + 1)
set_option maxRecDepth 100000 in
set_option maxHeartbeats 4000000 in
theorem t_X11_farFor_b121 (h : AH) (N : Nat) (K4 : Nat → Int32 → Int32 → Int32 → Option Int32) (hK4 : ∀ (z0 : Nat) (z1 : Int32) (z2 : Int32) (z3 : Int32), AO l g M_X11_farFor false h 4 [(0, .ref z0), (1, .int z1), (2, .int z2), (3, .int z3)] [] h 0 0 (rPi h) (K4 z0 z1 z2 z3)) (K39 : Nat → Int32 → Int32 → Int32 → Nat → Int32 → Int32 → Option Int32) (hK39 : ∀ (z0 : Nat) (z1 : Int32) (z2 : Int32) (z3 : Int32) (z4 : Nat) (z5 : Int32) (z6 : Int32), AO l g M_X11_farFor false h 39 [(0, .ref z0), (1, .int z1), (2, .int z2), (3, .int z3), (4, .ref z4), (5, .int z5), (6, .int z6)] [] h 0 0 (rPi h) (K39 z0 z1 z2 z3 z4 z5 z6)) (x0 : Nat) (x1 : Int32) (x2 : Int32) (x3 : Int32) (x4 : Nat) (x6 : Int32) (x7 : Int32) : AO l g M_X11_farFor false h 121 [(0, .ref x0), (1, .int x1), (2, .int x2), (3, .int x3), (4, .ref x4), (6, .int x6), (7, .int x7)] [] h 0 0 (rPi h) (f_X11_farFor_b121 h N K4 K39 x0 x1 x2 x3 x4 x6 x7) := by
  unfold f_X11_farFor_b121
  refine a_iload dX11_farFor_121 6 rfl ?_
  refine a_istore (lc2 := [(5, .int x7), (0, .ref x0), (1, .int x1), (2, .int x2), (3, .int x3), (4, .ref x4), (6, .int x6), (7, .int x7)]) dX11_farFor_123 (by decide) rfl ?_
  refine a_pick (lc2 := [(0, .ref x0), (1, .int x1), (2, .int x2), (3, .int x3), (4, .ref x4), (5, .int x7), (6, .int x6)]) [1, 2, 3, 4, 5, 0, 6] rfl ?_
  exact t_X11_farFor_b125 h N K4 hK4 K39 hK39 x0 x1 x2 x3 x4 x7 x6
set_option maxRecDepth 100000 in
set_option maxHeartbeats 4000000 in
theorem t_X11_farFor_b148 (h : AH) (N : Nat) (K4 : Nat → Int32 → Int32 → Int32 → Option Int32) (hK4 : ∀ (z0 : Nat) (z1 : Int32) (z2 : Int32) (z3 : Int32), AO l g M_X11_farFor false h 4 [(0, .ref z0), (1, .int z1), (2, .int z2), (3, .int z3)] [] h 0 0 (rPi h) (K4 z0 z1 z2 z3)) (x0 : Nat) (x1 : Int32) (x2 : Int32) (x3 : Int32) : AO l g M_X11_farFor false h 148 [(0, .ref x0), (1, .int x1), (2, .int x2), (3, .int x3)] [] h 0 0 (rPi h) (f_X11_farFor_b148 h N K4 x0 x1 x2 x3) := by
  unfold f_X11_farFor_b148
  refine a_iinc (q := 3) (v := (x3 + 1)) (lc2 := [(3, .int (x3 + 1)), (0, .ref x0), (1, .int x1), (2, .int x2)]) dX11_farFor_148 rfl rfl (by decide) rfl ?_
  refine a_goto 4 dX11_farFor_151 (by decide) ?_
  refine a_pick (lc2 := [(0, .ref x0), (1, .int x1), (2, .int x2), (3, .int (x3 + 1))]) [1, 2, 3, 0] rfl ?_
  exact hK4 x0 x1 x2 (x3 + 1)
set_option maxRecDepth 100000 in
set_option maxHeartbeats 4000000 in
theorem t_X11_farFor_b39_body (h : AH) (N : Nat) (K4 : Nat → Int32 → Int32 → Int32 → Option Int32) (hK4 : ∀ (z0 : Nat) (z1 : Int32) (z2 : Int32) (z3 : Int32), AO l g M_X11_farFor false h 4 [(0, .ref z0), (1, .int z1), (2, .int z2), (3, .int z3)] [] h 0 0 (rPi h) (K4 z0 z1 z2 z3)) (K39 : Nat → Int32 → Int32 → Int32 → Nat → Int32 → Int32 → Option Int32) (hK39 : ∀ (z0 : Nat) (z1 : Int32) (z2 : Int32) (z3 : Int32) (z4 : Nat) (z5 : Int32) (z6 : Int32), AO l g M_X11_farFor false h 39 [(0, .ref z0), (1, .int z1), (2, .int z2), (3, .int z3), (4, .ref z4), (5, .int z5), (6, .int z6)] [] h 0 0 (rPi h) (K39 z0 z1 z2 z3 z4 z5 z6)) (x0 : Nat) (x1 : Int32) (x2 : Int32) (x3 : Int32) (x4 : Nat) (x5 : Int32) (x6 : Int32) : AO l g M_X11_farFor false h 39 [(0, .ref x0), (1, .int x1), (2, .int x2), (3, .int x3), (4, .ref x4), (5, .int x5), (6, .int x6)] [] h 0 0 (rPi h) (f_X11_farFor_b39_body h N K4 K39 x0 x1 x2 x3 x4 x5 x6) := by
  unfold f_X11_farFor_b39_body
  refine a_iload dX11_farFor_39 6 rfl ?_
  refine a_aload_n dX11_farFor_41 rfl 0 rfl ?_
  refine a_getr kc12 3 dX11_farFor_42 (by decide) rfl w_fieldLink_RainCover_24 (fun v8 => ?_)
  refine a_cV_Pi (r := v8) (ci := 0) (as := []) (st := [.int x6]) dX11_farFor_45 (c_Jx4a65c_size_8abf5 l g h v8) rfl km_Jx4a65c_size_8abf5 (hm_Jx4a65c_size_8abf5) rfl (by decide) rfl (fun _ ee => g_Jx4a65c_size_8abf5 ee) w_methodLink_RainCover_104 w_instanceMethod_java_util_ArrayList_size___I w_selects_java_util_ArrayList_java_util_ArrayList_size___I_java_util_ArrayList_size___I ⟨⟨by decide, by decide⟩, ⟨by decide, by decide⟩⟩ (Nat.le_of_ble_eq_true rfl) (fun v9 => ?_)
  refine a_icmp_ge 131 dX11_farFor_48 (by decide) (fun c10 => ?_) (fun c10 => ?_)
  · refine a_iload dX11_farFor_131 5 rfl ?_
    refine a_iconst (v := (-1)) dX11_farFor_133 (by decide) ?_
    refine a_icmp_eq 148 dX11_farFor_134 (by decide) (fun c11 => ?_) (fun c11 => ?_)
    · refine a_pick (lc2 := [(0, .ref x0), (1, .int x1), (2, .int x2), (3, .int x3)]) [0, 1, 2, 3] rfl ?_
      exact t_X11_farFor_b148 h N K4 hK4 x0 x1 x2 x3
    · refine a_iload_n dX11_farFor_137 rfl 2 rfl ?_
      refine a_aload dX11_farFor_138 4 rfl ?_
      refine a_geti kc3 3 dX11_farFor_140 (by decide) rfl w_fieldLink_RainCover_321 (fun v12 => ?_)
      refine a_iload dX11_farFor_143 5 rfl ?_
      refine a_imul dX11_farFor_145 ?_
      refine a_iadd dX11_farFor_146 ?_
      refine a_istore_n (lc2 := [(2, .int (x2 + (v12 * x5))), (0, .ref x0), (1, .int x1), (3, .int x3), (4, .ref x4), (5, .int x5), (6, .int x6)]) dX11_farFor_147 rfl (by decide) rfl ?_
      refine a_pick (lc2 := [(0, .ref x0), (1, .int x1), (2, .int (x2 + (v12 * x5))), (3, .int x3)]) [1, 2, 0, 3] rfl ?_
      exact t_X11_farFor_b148 h N K4 hK4 x0 x1 (x2 + (v12 * x5)) x3
  · refine a_iload_n dX11_farFor_51 rfl 1 rfl ?_
    refine a_iload dX11_farFor_52 6 rfl ?_
    refine a_cS_Pi (as := [.int x1, .int x6]) (st := []) dX11_farFor_54 (c_X11_hasSite l g h x1 x6) rfl km_X11_hasSite (hm_X11_hasSite) w_methodLink_RainCover_365 w_static_RainCover_hasSite__II_Z ⟨⟨by decide, by decide⟩, ⟨by decide, by decide⟩⟩ (Nat.le_of_ble_eq_true rfl) (fun v13 => ?_)
    refine a_if_ne 63 dX11_farFor_57 (by decide) (fun c14 => ?_) (fun c14 => ?_)
    · refine a_goto 125 dX11_farFor_60 (by decide) ?_
      exact t_X11_farFor_b125 h N K4 hK4 K39 hK39 x0 x1 x2 x3 x4 x5 x6
    · refine a_aload dX11_farFor_63 4 rfl ?_
      refine a_geti kc3 1 dX11_farFor_65 (by decide) rfl w_fieldLink_RainCover_304 (fun v15 => ?_)
      refine a_aload dX11_farFor_68 4 rfl ?_
      refine a_geti kc3 2 dX11_farFor_70 (by decide) rfl w_fieldLink_RainCover_305 (fun v16 => ?_)
      refine a_aload_n dX11_farFor_73 rfl 0 rfl ?_
      refine a_getr kc12 3 dX11_farFor_74 (by decide) rfl w_fieldLink_RainCover_24 (fun v17 => ?_)
      refine a_iload dX11_farFor_77 6 rfl ?_
      refine a_cV_Pr (r := v17) (ci := 0) (as := [.int x6]) (st := [.int v16, .int v15]) dX11_farFor_79 (c_Jx4a65c_get_915e3 l g h v17 x6) rfl km_Jx4a65c_get_915e3 (hm_Jx4a65c_get_915e3) rfl (by decide) rfl (fun _ ee => g_Jx4a65c_get_915e3 ee) w_methodLink_RainCover_124 w_instanceMethod_java_util_ArrayList_get__I_Ljava_lang_Object_ w_selects_java_util_ArrayList_java_util_ArrayList_get__I_Ljava_lang_Object__java_util_ArrayList_get__I_Ljava_lang_Object_ ⟨⟨by decide, by decide⟩, ⟨by decide, by decide⟩⟩ (Nat.le_of_ble_eq_true rfl) (fun v18 => ?_)
      refine a_cast kc4 dX11_farFor_82 w_classLink_RainCover_108 ?_
      refine a_geti kc4 0 dX11_farFor_85 (by decide) rfl w_fieldLink_RainCover_182 (fun v19 => ?_)
      refine a_aload_n dX11_farFor_88 rfl 0 rfl ?_
      refine a_getr kc12 3 dX11_farFor_89 (by decide) rfl w_fieldLink_RainCover_24 (fun v20 => ?_)
      refine a_iload dX11_farFor_92 6 rfl ?_
      refine a_cV_Pr (r := v20) (ci := 0) (as := [.int x6]) (st := [.int v19, .int v16, .int v15]) dX11_farFor_94 (c_Jx4a65c_get_915e3 l g h v20 x6) rfl km_Jx4a65c_get_915e3 (hm_Jx4a65c_get_915e3) rfl (by decide) rfl (fun _ ee => g_Jx4a65c_get_915e3 ee) w_methodLink_RainCover_124 w_instanceMethod_java_util_ArrayList_get__I_Ljava_lang_Object_ w_selects_java_util_ArrayList_java_util_ArrayList_get__I_Ljava_lang_Object__java_util_ArrayList_get__I_Ljava_lang_Object_ ⟨⟨by decide, by decide⟩, ⟨by decide, by decide⟩⟩ (Nat.le_of_ble_eq_true rfl) (fun v21 => ?_)
      refine a_cast kc4 dX11_farFor_97 w_classLink_RainCover_108 ?_
      refine a_geti kc4 1 dX11_farFor_100 (by decide) rfl w_fieldLink_RainCover_185 (fun v22 => ?_)
      refine a_cS_Pi (as := [.int v15, .int v16, .int v19, .int v22]) (st := []) dX11_farFor_103 (c_X11_distance l g h v15 v16 v19 v22) rfl km_X11_distance (hm_X11_distance) w_methodLink_RainCover_188 w_static_RainCover_distance__IIII_I ⟨⟨by decide, by decide⟩, ⟨by decide, by decide⟩⟩ (Nat.le_of_ble_eq_true rfl) (fun v23 => ?_)
      refine a_istore (lc2 := [(7, .int v23), (0, .ref x0), (1, .int x1), (2, .int x2), (3, .int x3), (4, .ref x4), (5, .int x5), (6, .int x6)]) dX11_farFor_106 (by decide) rfl ?_
      refine a_iload dX11_farFor_108 6 rfl ?_
      refine a_iconst (v := (-1)) dX11_farFor_110 (by decide) ?_
      refine a_icmp_eq 121 dX11_farFor_111 (by decide) (fun c24 => ?_) (fun c24 => ?_)
      · refine a_pick (lc2 := [(0, .ref x0), (1, .int x1), (2, .int x2), (3, .int x3), (4, .ref x4), (6, .int x6), (7, .int v23)]) [1, 2, 3, 4, 5, 7, 0] rfl ?_
        exact t_X11_farFor_b121 h N K4 hK4 K39 hK39 x0 x1 x2 x3 x4 x6 v23
      · refine a_iload dX11_farFor_114 0 rfl ?_
        refine a_iload dX11_farFor_116 6 rfl ?_
        refine a_icmp_ge 125 dX11_farFor_118 (by decide) (fun c25 => ?_) (fun c25 => ?_)
        · refine a_pick (lc2 := [(0, .ref x0), (1, .int x1), (2, .int x2), (3, .int x3), (4, .ref x4), (5, .int x5), (6, .int x6)]) [1, 2, 3, 4, 5, 6, 7] rfl ?_
          exact t_X11_farFor_b125 h N K4 hK4 K39 hK39 x0 x1 x2 x3 x4 x5 x6
        · refine a_pick (lc2 := [(0, .ref x0), (1, .int x1), (2, .int x2), (3, .int x3), (4, .ref x4), (6, .int x6), (7, .int v23)]) [1, 2, 3, 4, 5, 7, 0] rfl ?_
          exact t_X11_farFor_b121 h N K4 hK4 K39 hK39 x0 x1 x2 x3 x4 x6 v23
set_option maxRecDepth 100000 in
set_option maxHeartbeats 4000000 in
theorem t_X11_farFor_b39 (h : AH) (N : Nat) (K4 : Nat → Int32 → Int32 → Int32 → Option Int32) (hK4 : ∀ (z0 : Nat) (z1 : Int32) (z2 : Int32) (z3 : Int32), AO l g M_X11_farFor false h 4 [(0, .ref z0), (1, .int z1), (2, .int z2), (3, .int z3)] [] h 0 0 (rPi h) (K4 z0 z1 z2 z3)) : ∀ (n : Nat) (x0 : Nat) (x1 : Int32) (x2 : Int32) (x3 : Int32) (x4 : Nat) (x5 : Int32) (x6 : Int32) , AO l g M_X11_farFor false h 39 [(0, .ref x0), (1, .int x1), (2, .int x2), (3, .int x3), (4, .ref x4), (5, .int x5), (6, .int x6)] [] h 0 0 (rPi h) (f_X11_farFor_b39 h N K4 n x0 x1 x2 x3 x4 x5 x6) := by
  intro n
  induction n with
  | zero => intro x0 x1 x2 x3 x4 x5 x6; exact a_eq rfl a_none
  | succ n ih => intro x0 x1 x2 x3 x4 x5 x6; exact a_eq rfl (t_X11_farFor_b39_body h N (K4) (hK4) (f_X11_farFor_b39 h N K4 n) ih x0 x1 x2 x3 x4 x5 x6)
set_option maxRecDepth 100000 in
set_option maxHeartbeats 4000000 in
theorem t_X11_farFor_b4_body (h : AH) (N : Nat) (K4 : Nat → Int32 → Int32 → Int32 → Option Int32) (hK4 : ∀ (z0 : Nat) (z1 : Int32) (z2 : Int32) (z3 : Int32), AO l g M_X11_farFor false h 4 [(0, .ref z0), (1, .int z1), (2, .int z2), (3, .int z3)] [] h 0 0 (rPi h) (K4 z0 z1 z2 z3)) (x0 : Nat) (x1 : Int32) (x2 : Int32) (x3 : Int32) : AO l g M_X11_farFor false h 4 [(0, .ref x0), (1, .int x1), (2, .int x2), (3, .int x3)] [] h 0 0 (rPi h) (f_X11_farFor_b4_body h N K4 x0 x1 x2 x3) := by
  unfold f_X11_farFor_b4_body
  refine a_iload_n dX11_farFor_4 rfl 3 rfl ?_
  refine a_aload_n dX11_farFor_5 rfl 0 rfl ?_
  refine a_getr kc12 2 dX11_farFor_6 (by decide) rfl w_fieldLink_RainCover_21 (fun v1 => ?_)
  refine a_cV_Pi (r := v1) (ci := 0) (as := []) (st := [.int x3]) dX11_farFor_9 (c_Jx4a65c_size_8abf5 l g h v1) rfl km_Jx4a65c_size_8abf5 (hm_Jx4a65c_size_8abf5) rfl (by decide) rfl (fun _ ee => g_Jx4a65c_size_8abf5 ee) w_methodLink_RainCover_104 w_instanceMethod_java_util_ArrayList_size___I w_selects_java_util_ArrayList_java_util_ArrayList_size___I_java_util_ArrayList_size___I ⟨⟨by decide, by decide⟩, ⟨by decide, by decide⟩⟩ (Nat.le_of_ble_eq_true rfl) (fun v2 => ?_)
  refine a_icmp_ge 154 dX11_farFor_12 (by decide) (fun c3 => ?_) (fun c3 => ?_)
  · refine a_iload_n dX11_farFor_154 rfl 2 rfl ?_
    exact a_iret dX11_farFor_155 rfl rfl (by decide) (by decide)
  · refine a_aload_n dX11_farFor_15 rfl 0 rfl ?_
    refine a_getr kc12 2 dX11_farFor_16 (by decide) rfl w_fieldLink_RainCover_21 (fun v4 => ?_)
    refine a_iload_n dX11_farFor_19 rfl 3 rfl ?_
    refine a_cV_Pr (r := v4) (ci := 0) (as := [.int x3]) (st := []) dX11_farFor_20 (c_Jx4a65c_get_915e3 l g h v4 x3) rfl km_Jx4a65c_get_915e3 (hm_Jx4a65c_get_915e3) rfl (by decide) rfl (fun _ ee => g_Jx4a65c_get_915e3 ee) w_methodLink_RainCover_124 w_instanceMethod_java_util_ArrayList_get__I_Ljava_lang_Object_ w_selects_java_util_ArrayList_java_util_ArrayList_get__I_Ljava_lang_Object__java_util_ArrayList_get__I_Ljava_lang_Object_ ⟨⟨by decide, by decide⟩, ⟨by decide, by decide⟩⟩ (Nat.le_of_ble_eq_true rfl) (fun v5 => ?_)
    refine a_cast kc3 dX11_farFor_23 w_classLink_RainCover_233 ?_
    refine a_astore (lc2 := [(4, .ref v5), (0, .ref x0), (1, .int x1), (2, .int x2), (3, .int x3)]) dX11_farFor_26 (by decide) rfl ?_
    refine a_aload_n dX11_farFor_28 rfl 1 rfl ?_
    refine a_getr kc12 19 dX11_farFor_29 (by decide) rfl w_fieldLink_RainCover_93 (fun v6 => ?_)
    refine a_iload_n dX11_farFor_32 rfl 4 rfl ?_
    refine a_iald dX11_farFor_33 (fun v7 => ?_)
    refine a_istore (lc2 := [(5, .int v7), (4, .ref v5), (0, .ref x0), (1, .int x1), (2, .int x2), (3, .int x3)]) dX11_farFor_34 (by decide) rfl ?_
    refine a_iconst (v := 0) dX11_farFor_36 (by decide) ?_
    refine a_istore (lc2 := [(6, .int 0), (5, .int v7), (4, .ref v5), (0, .ref x0), (1, .int x1), (2, .int x2), (3, .int x3)]) dX11_farFor_37 (by decide) rfl ?_
    refine a_pick (lc2 := [(0, .ref x0), (1, .int x1), (2, .int x2), (3, .int x3), (4, .ref v5), (5, .int v7), (6, .int 0)]) [3, 4, 5, 6, 2, 1, 0] rfl ?_
    exact t_X11_farFor_b39 h N K4 hK4 N x0 x1 x2 x3 v5 v7 0
set_option maxRecDepth 100000 in
set_option maxHeartbeats 4000000 in
theorem t_X11_farFor_b4 (h : AH) (N : Nat) : ∀ (n : Nat) (x0 : Nat) (x1 : Int32) (x2 : Int32) (x3 : Int32) , AO l g M_X11_farFor false h 4 [(0, .ref x0), (1, .int x1), (2, .int x2), (3, .int x3)] [] h 0 0 (rPi h) (f_X11_farFor_b4 h N  n x0 x1 x2 x3) := by
  intro n
  induction n with
  | zero => intro x0 x1 x2 x3; exact a_eq rfl a_none
  | succ n ih => intro x0 x1 x2 x3; exact a_eq rfl (t_X11_farFor_b4_body h N  (f_X11_farFor_b4 h N  n) ih x0 x1 x2 x3)
end
set_option maxRecDepth 100000 in
set_option maxHeartbeats 4000000 in
theorem c_X11_farFor (l : Launch) (g : GG) (h : AH) (N : Nat) (p0 : Nat) (p1 : Int32) : CN l g yX11_farFor M_X11_farFor false [.ref p0, .int p1] h ((rPi h)) (f_X11_farFor h N p0 p1) := by
  refine CN.of (by decide) rfl (fun hh => by first | rfl | cases hh) (Nat.le_of_ble_eq_true rfl) ?_
  unfold f_X11_farFor
  refine a_gd (fun hkd => ?_)
  refine a_iconst (v := 0) dX11_farFor_0 (by decide) ?_
  refine a_istore_n (lc2 := [(2, .int 0), (0, .ref p0), (1, .int p1)]) dX11_farFor_1 rfl (by decide) rfl ?_
  refine a_iconst (v := 0) dX11_farFor_2 (by decide) ?_
  refine a_istore_n (lc2 := [(3, .int 0), (2, .int 0), (0, .ref p0), (1, .int p1)]) dX11_farFor_3 rfl (by decide) rfl ?_
  refine a_pick (lc2 := [(0, .ref p0), (1, .int p1), (2, .int 0), (3, .int 0)]) [2, 3, 1, 0] rfl ?_
  exact t_X11_farFor_b4 h N N p0 p1 0 0
