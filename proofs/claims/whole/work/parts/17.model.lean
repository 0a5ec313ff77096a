theorem dX12_body_0 : decode cX12_body 0 = .ok (.aload_n 0, 1) := by decide +kernel
theorem dX12_body_1 : decode cX12_body 1 = .ok (.getfield 455, 3) := by decide +kernel
theorem dX12_body_4 : decode cX12_body 4 = .ok (.bipush 20, 2) := by decide +kernel
theorem dX12_body_6 : decode cX12_body 6 = .ok (.if_icmp .ge 13, 3) := by decide +kernel
theorem dX12_body_9 : decode cX12_body 9 = .ok (.aload_n 0, 1) := by decide +kernel
theorem dX12_body_10 : decode cX12_body 10 = .ok (.getfield 173, 3) := by decide +kernel
theorem dX12_body_13 : decode cX12_body 13 = .ok (.aload_n 0, 1) := by decide +kernel
theorem dX12_body_14 : decode cX12_body 14 = .ok (.getfield 455, 3) := by decide +kernel
theorem dX12_body_17 : decode cX12_body 17 = .ok (.iload_n 1, 1) := by decide +kernel
theorem dX12_body_18 : decode cX12_body 18 = .ok (.iastore, 1) := by decide +kernel
theorem dX12_body_19 : decode cX12_body 19 = .ok (.aload_n 0, 1) := by decide +kernel
theorem dX12_body_20 : decode cX12_body 20 = .ok (.dup, 1) := by decide +kernel
theorem dX12_body_21 : decode cX12_body 21 = .ok (.getfield 455, 3) := by decide +kernel
theorem dX12_body_24 : decode cX12_body 24 = .ok (.iconst 1, 1) := by decide +kernel
theorem dX12_body_25 : decode cX12_body 25 = .ok (.iadd, 1) := by decide +kernel
theorem dX12_body_26 : decode cX12_body 26 = .ok (.putfield 455, 3) := by decide +kernel
theorem dX12_body_29 : decode cX12_body 29 = .ok (.return_, 1) := by decide +kernel
abbrev M_X12_body : MI := (RX12, cX12_body, 2, none, ({ frames := 0, cells := 0, slots := 0, locals := 0 } : Room), 0, 0, false)
def f_X12_body_b19 (h : AH) (x0 : Nat) : Option AH := (xgi h x0 13 64).bind fun v6 => (xpi h x0 13 64 (v6 + 1)).bind fun h7 => some h7
def f_X12_body (h0 : AH) (p0 : Nat) (p1 : Int32) : Option AH := if kd h0 p0 = 13 + 1 then (xgi h0 p0 13 64).bind fun v1 => (if 20 ≤ v1 then f_X12_body_b19 h0 p0 else (xgr h0 p0 13 65).bind fun v3 => (xgi h0 p0 13 64).bind fun v4 => (xis h0 v3 v4 p1).bind fun h5 => f_X12_body_b19 h5 p0) else none
theorem g_X12_body {h0 : AH} {p0 : Nat} {p1 : Int32} {x : AH} (e : f_X12_body h0 p0 p1 = some x) : kd h0 p0 = 13 + 1 := by
  unfold f_X12_body at e
  by_cases hk : kd h0 p0 = 13 + 1
  · exact hk
  · rw [if_neg hk] at e
    cases e
theorem km_X12_body : KM yX12_body M_X12_body 1 := ⟨in_tb 1866 (by decide +kernel) rfl, in_tb 9 (by decide +kernel) rfl, by decide +kernel, rfl, rfl⟩
theorem hm_X12_body : M_X12_body.2.2.2.2.2.1 = 0 ∧ M_X12_body.2.2.2.2.2.2.1 = 0 := ⟨rfl, rfl⟩
section
variable {l : Launch} {g : GG}
set_option maxRecDepth 100000 in
set_option maxHeartbeats 4000000 in
theorem t_X12_body_b19 (h0 : AH) (h : AH) (x0 : Nat) : AO l g M_X12_body false h0 19 [(0, .ref x0)] [] h 0 0 rSv (f_X12_body_b19  h x0) := by
  unfold f_X12_body_b19
  refine a_aload_n dX12_body_19 rfl 0 rfl ?_
  refine a_dup dX12_body_20 rfl ?_
  refine a_geti kc13 64 dX12_body_21 (by decide) rfl w_fieldLink_RainCoverModel_455 (fun v6 => ?_)
  refine a_iconst (v := 1) dX12_body_24 (by decide) ?_
  refine a_iadd dX12_body_25 ?_
  refine a_puti kc13 64 dX12_body_26 (by decide) rfl w_fieldLink_RainCoverModel_455 rfl rfl (fun h7 => ?_)
  exact a_vret dX12_body_29 rfl rfl (by decide) (by decide)
end
set_option maxRecDepth 100000 in
set_option maxHeartbeats 4000000 in
theorem c_X12_body (l : Launch) (g : GG) (h0 : AH) (p0 : Nat) (p1 : Int32) : CN l g yX12_body M_X12_body false [.ref p0, .int p1] h0 rSv (f_X12_body h0 p0 p1) := by
  refine CN.of (by decide) rfl (fun hh => by first | rfl | cases hh) (Nat.le_of_ble_eq_true rfl) ?_
  unfold f_X12_body
  refine a_gd (fun hkd => ?_)
  refine a_aload_n dX12_body_0 rfl 0 rfl ?_
  refine a_geti kc13 64 dX12_body_1 (by decide) rfl w_fieldLink_RainCoverModel_455 (fun v1 => ?_)
  refine a_bipush (v := 20) dX12_body_4 (by decide) ?_
  refine a_icmp_ge 19 dX12_body_6 (by decide) (fun c2 => ?_) (fun c2 => ?_)
  · refine a_pick (lc2 := [(0, .ref p0)]) [0] rfl ?_
    exact t_X12_body_b19 h0 h0 p0
  · refine a_aload_n dX12_body_9 rfl 0 rfl ?_
    refine a_getr kc13 65 dX12_body_10 (by decide) rfl w_fieldLink_RainCoverModel_173 (fun v3 => ?_)
    refine a_aload_n dX12_body_13 rfl 0 rfl ?_
    refine a_geti kc13 64 dX12_body_14 (by decide) rfl w_fieldLink_RainCoverModel_455 (fun v4 => ?_)
    refine a_iload_n dX12_body_17 rfl 1 rfl ?_
    refine a_iast dX12_body_18 (fun h5 => ?_)
    refine a_pick (lc2 := [(0, .ref p0)]) [0] rfl ?_
    exact t_X12_body_b19 h0 h5 p0
theorem dX12_drinksCrop_0 : decode cX12_drinksCrop 0 = .ok (.aload_n 0, 1) := by decide +kernel
theorem dX12_drinksCrop_1 : decode cX12_drinksCrop 1 = .ok (.bipush 10, 2) := by decide +kernel
theorem dX12_drinksCrop_3 : decode cX12_drinksCrop 3 = .ok (.invokevirtual 458, 3) := by decide +kernel
theorem dX12_drinksCrop_6 : decode cX12_drinksCrop 6 = .ok (.iload_n 2, 1) := by decide +kernel
theorem dX12_drinksCrop_7 : decode cX12_drinksCrop 7 = .ok (.aload_n 0, 1) := by decide +kernel
theorem dX12_drinksCrop_8 : decode cX12_drinksCrop 8 = .ok (.getfield 91, 3) := by decide +kernel
theorem dX12_drinksCrop_11 : decode cX12_drinksCrop 11 = .ok (.iload_n 1, 1) := by decide +kernel
theorem dX12_drinksCrop_12 : decode cX12_drinksCrop 12 = .ok (.iaload, 1) := by decide +kernel
theorem dX12_drinksCrop_13 : decode cX12_drinksCrop 13 = .ok (.iadd, 1) := by decide +kernel
theorem dX12_drinksCrop_14 : decode cX12_drinksCrop 14 = .ok (.ireturn, 1) := by decide +kernel
abbrev M_X12_drinksCrop : MI := (RX12, cX12_drinksCrop, 3, (some .int), ({ frames := 1, cells := 0, slots := 0, locals := 21 } : Room), 0, 0, false)
def f_X12_drinksCrop (h0 : AH) (p0 : Nat) (p1 : Int32) (p2 : Int32) : Option (Int32 × AH) := if kd h0 p0 = 13 + 1 then (f_X12_body h0 p0 10).bind fun q1 => (xgr q1 p0 13 30).bind fun v2 => (xia q1 v2 p1).bind fun v3 => some ((p2 + v3), q1) else none
theorem g_X12_drinksCrop {h0 : AH} {p0 : Nat} {p1 : Int32} {p2 : Int32} {x : (Int32 × AH)} (e : f_X12_drinksCrop h0 p0 p1 p2 = some x) : kd h0 p0 = 13 + 1 := by
  unfold f_X12_drinksCrop at e
  by_cases hk : kd h0 p0 = 13 + 1
  · exact hk
  · rw [if_neg hk] at e
    cases e
theorem km_X12_drinksCrop : KM yX12_drinksCrop M_X12_drinksCrop 2 := ⟨in_tb 1870 (by decide +kernel) rfl, in_tb 9 (by decide +kernel) rfl, by decide +kernel, rfl, rfl⟩
theorem hm_X12_drinksCrop : M_X12_drinksCrop.2.2.2.2.2.1 = 0 ∧ M_X12_drinksCrop.2.2.2.2.2.2.1 = 0 := ⟨rfl, rfl⟩
section
variable {l : Launch} {g : GG}
end
set_option maxRecDepth 100000 in
set_option maxHeartbeats 4000000 in
theorem c_X12_drinksCrop (l : Launch) (g : GG) (h0 : AH) (p0 : Nat) (p1 : Int32) (p2 : Int32) : CN l g yX12_drinksCrop M_X12_drinksCrop false [.ref p0, .int p1, .int p2] h0 rSi (f_X12_drinksCrop h0 p0 p1 p2) := by
  refine CN.of (by decide) rfl (fun hh => by first | rfl | cases hh) (Nat.le_of_ble_eq_true rfl) ?_
  unfold f_X12_drinksCrop
  refine a_gd (fun hkd => ?_)
  refine a_aload_n dX12_drinksCrop_0 rfl 0 rfl ?_
  refine a_bipush (v := 10) dX12_drinksCrop_1 (by decide) ?_
  refine a_cV_Sv (r := p0) (ci := 13) (as := [.int 10]) (st := []) dX12_drinksCrop_3 (c_X12_body l g h0 p0 10) rfl km_X12_body (hm_X12_body) rfl (by decide) rfl (fun _ ee => g_X12_body ee) w_methodLink_RainCoverModel_458 w_instanceMethod_RainCoverModel_body__I_V w_selects_RainCoverModel_RainCoverModel_body__I_V_RainCoverModel_body__I_V ⟨⟨by decide, by decide⟩, ⟨by decide, by decide⟩⟩ (Nat.le_of_ble_eq_true rfl) (fun q1 => ?_)
  refine a_iload_n dX12_drinksCrop_6 rfl 2 rfl ?_
  refine a_aload_n dX12_drinksCrop_7 rfl 0 rfl ?_
  refine a_getr kc13 30 dX12_drinksCrop_8 (by decide) rfl w_fieldLink_RainCoverModel_91 (fun v2 => ?_)
  refine a_iload_n dX12_drinksCrop_11 rfl 1 rfl ?_
  refine a_iald dX12_drinksCrop_12 (fun v3 => ?_)
  refine a_iadd dX12_drinksCrop_13 ?_
  exact a_iret dX12_drinksCrop_14 rfl rfl (by decide) (by decide)
theorem dX12_drinks_0 : decode cX12_drinks 0 = .ok (.aload_n 0, 1) := by decide +kernel
theorem dX12_drinks_1 : decode cX12_drinks 1 = .ok (.getfield 88, 3) := by decide +kernel
theorem dX12_drinks_4 : decode cX12_drinks 4 = .ok (.iload_n 1, 1) := by decide +kernel
theorem dX12_drinks_5 : decode cX12_drinks 5 = .ok (.iaload, 1) := by decide +kernel
theorem dX12_drinks_6 : decode cX12_drinks 6 = .ok (.iconst 1, 1) := by decide +kernel
theorem dX12_drinks_7 : decode cX12_drinks 7 = .ok (.if_icmp .eq 13, 3) := by decide +kernel
theorem dX12_drinks_10 : decode cX12_drinks 10 = .ok (.aload_n 0, 1) := by decide +kernel
theorem dX12_drinks_11 : decode cX12_drinks 11 = .ok (.getfield 88, 3) := by decide +kernel
theorem dX12_drinks_14 : decode cX12_drinks 14 = .ok (.iload_n 1, 1) := by decide +kernel
theorem dX12_drinks_15 : decode cX12_drinks 15 = .ok (.iaload, 1) := by decide +kernel
theorem dX12_drinks_16 : decode cX12_drinks 16 = .ok (.iconst 2, 1) := by decide +kernel
theorem dX12_drinks_17 : decode cX12_drinks 17 = .ok (.if_icmp .ne 18, 3) := by decide +kernel
theorem dX12_drinks_20 : decode cX12_drinks 20 = .ok (.aload_n 0, 1) := by decide +kernel
theorem dX12_drinks_21 : decode cX12_drinks 21 = .ok (.bipush 20, 2) := by decide +kernel
theorem dX12_drinks_23 : decode cX12_drinks 23 = .ok (.invokevirtual 458, 3) := by decide +kernel
theorem dX12_drinks_26 : decode cX12_drinks 26 = .ok (.aload_n 0, 1) := by decide +kernel
theorem dX12_drinks_27 : decode cX12_drinks 27 = .ok (.iload_n 1, 1) := by decide +kernel
theorem dX12_drinks_28 : decode cX12_drinks 28 = .ok (.iload_n 2, 1) := by decide +kernel
theorem dX12_drinks_29 : decode cX12_drinks 29 = .ok (.invokevirtual 461, 3) := by decide +kernel
theorem dX12_drinks_32 : decode cX12_drinks 32 = .ok (.iload_n 1, 1) := by decide +kernel
theorem dX12_drinks_33 : decode cX12_drinks 33 = .ok (.isub, 1) := by decide +kernel
theorem dX12_drinks_34 : decode cX12_drinks 34 = .ok (.ireturn, 1) := by decide +kernel
theorem dX12_drinks_35 : decode cX12_drinks 35 = .ok (.aload_n 0, 1) := by decide +kernel
theorem dX12_drinks_36 : decode cX12_drinks 36 = .ok (.getfield 88, 3) := by decide +kernel
theorem dX12_drinks_39 : decode cX12_drinks 39 = .ok (.iload_n 1, 1) := by decide +kernel
theorem dX12_drinks_40 : decode cX12_drinks 40 = .ok (.iaload, 1) := by decide +kernel
theorem dX12_drinks_41 : decode cX12_drinks 41 = .ok (.iconst 3, 1) := by decide +kernel
theorem dX12_drinks_42 : decode cX12_drinks 42 = .ok (.if_icmp .ne 18, 3) := by decide +kernel
theorem dX12_drinks_45 : decode cX12_drinks 45 = .ok (.aload_n 0, 1) := by decide +kernel
theorem dX12_drinks_46 : decode cX12_drinks 46 = .ok (.bipush 41, 2) := by decide +kernel
theorem dX12_drinks_48 : decode cX12_drinks 48 = .ok (.invokevirtual 458, 3) := by decide +kernel
theorem dX12_drinks_51 : decode cX12_drinks 51 = .ok (.aload_n 0, 1) := by decide +kernel
theorem dX12_drinks_52 : decode cX12_drinks 52 = .ok (.iload_n 1, 1) := by decide +kernel
theorem dX12_drinks_53 : decode cX12_drinks 53 = .ok (.iload_n 2, 1) := by decide +kernel
theorem dX12_drinks_54 : decode cX12_drinks 54 = .ok (.invokevirtual 461, 3) := by decide +kernel
theorem dX12_drinks_57 : decode cX12_drinks 57 = .ok (.iconst 5, 1) := by decide +kernel
theorem dX12_drinks_58 : decode cX12_drinks 58 = .ok (.ixor, 1) := by decide +kernel
theorem dX12_drinks_59 : decode cX12_drinks 59 = .ok (.ireturn, 1) := by decide +kernel
theorem dX12_drinks_60 : decode cX12_drinks 60 = .ok (.aload_n 0, 1) := by decide +kernel
theorem dX12_drinks_61 : decode cX12_drinks 61 = .ok (.iload_n 1, 1) := by decide +kernel
theorem dX12_drinks_62 : decode cX12_drinks 62 = .ok (.iload_n 2, 1) := by decide +kernel
theorem dX12_drinks_63 : decode cX12_drinks 63 = .ok (.invokevirtual 461, 3) := by decide +kernel
theorem dX12_drinks_66 : decode cX12_drinks 66 = .ok (.ireturn, 1) := by decide +kernel
abbrev M_X12_drinks : MI := (RX12, cX12_drinks, 3, (some .int), ({ frames := 2, cells := 0, slots := 0, locals := 43 } : Room), 0, 0, false)
def f_X12_drinks_b20 (h : AH) (x0 : Nat) (x1 : Int32) (x2 : Int32) : Option (Int32 × AH) := (f_X12_body h x0 20).bind fun q13 => (f_X12_drinksCrop q13 x0 x1 x2).bind fun q14 => some ((q14.1 - x1), q14.2)
def f_X12_drinks (h0 : AH) (p0 : Nat) (p1 : Int32) (p2 : Int32) : Option (Int32 × AH) := if kd h0 p0 = 13 + 1 then (xgr h0 p0 13 29).bind fun v1 => (xia h0 v1 p1).bind fun v2 => (if v2 = 1 then f_X12_drinks_b20 h0 p0 p1 p2 else (xgr h0 p0 13 29).bind fun v4 => (xia h0 v4 p1).bind fun v5 => (if v5 = 2 then f_X12_drinks_b20 h0 p0 p1 p2 else (xgr h0 p0 13 29).bind fun v7 => (xia h0 v7 p1).bind fun v8 => (if v8 = 3 then (f_X12_body h0 p0 41).bind fun q10 => (f_X12_drinksCrop q10 p0 p1 p2).bind fun q11 => some ((q11.1 ^^^ 5), q11.2) else (f_X12_drinksCrop h0 p0 p1 p2).bind fun q12 => some (q12.1, q12.2)))) else none
theorem g_X12_drinks {h0 : AH} {p0 : Nat} {p1 : Int32} {p2 : Int32} {x : (Int32 × AH)} (e : f_X12_drinks h0 p0 p1 p2 = some x) : kd h0 p0 = 13 + 1 := by
  unfold f_X12_drinks at e
  by_cases hk : kd h0 p0 = 13 + 1
  · exact hk
  · rw [if_neg hk] at e
    cases e
theorem km_X12_drinks : KM yX12_drinks M_X12_drinks 2 := ⟨in_tb 1862 (by decide +kernel) rfl, in_tb 9 (by decide +kernel) rfl, by decide +kernel, rfl, rfl⟩
theorem hm_X12_drinks : M_X12_drinks.2.2.2.2.2.1 = 0 ∧ M_X12_drinks.2.2.2.2.2.2.1 = 0 := ⟨rfl, rfl⟩
section
variable {l : Launch} {g : GG}
set_option maxRecDepth 100000 in
set_option maxHeartbeats 4000000 in
theorem t_X12_drinks_b20 (h0 : AH) (h : AH) (x0 : Nat) (x1 : Int32) (x2 : Int32) : AO l g M_X12_drinks false h0 20 [(0, .ref x0), (1, .int x1), (2, .int x2)] [] h 0 0 rSi (f_X12_drinks_b20  h x0 x1 x2) := by
  unfold f_X12_drinks_b20
  refine a_aload_n dX12_drinks_20 rfl 0 rfl ?_
  refine a_bipush (v := 20) dX12_drinks_21 (by decide) ?_
  refine a_cV_Sv (r := x0) (ci := 13) (as := [.int 20]) (st := []) dX12_drinks_23 (c_X12_body l g h x0 20) rfl km_X12_body (hm_X12_body) rfl (by decide) rfl (fun _ ee => g_X12_body ee) w_methodLink_RainCoverModel_458 w_instanceMethod_RainCoverModel_body__I_V w_selects_RainCoverModel_RainCoverModel_body__I_V_RainCoverModel_body__I_V ⟨⟨by decide, by decide⟩, ⟨by decide, by decide⟩⟩ (Nat.le_of_ble_eq_true rfl) (fun q13 => ?_)
  refine a_aload_n dX12_drinks_26 rfl 0 rfl ?_
  refine a_iload_n dX12_drinks_27 rfl 1 rfl ?_
  refine a_iload_n dX12_drinks_28 rfl 2 rfl ?_
  refine a_cV_Si (r := x0) (ci := 13) (as := [.int x1, .int x2]) (st := []) dX12_drinks_29 (c_X12_drinksCrop l g q13 x0 x1 x2) rfl km_X12_drinksCrop (hm_X12_drinksCrop) rfl (by decide) rfl (fun _ ee => g_X12_drinksCrop ee) w_methodLink_RainCoverModel_461 w_instanceMethod_RainCoverModel_drinksCrop__II_I w_selects_RainCoverModel_RainCoverModel_drinksCrop__II_I_RainCoverModel_drinksCrop__II_I ⟨⟨by decide, by decide⟩, ⟨by decide, by decide⟩⟩ (Nat.le_of_ble_eq_true rfl) (fun q14 => ?_)
  refine a_iload_n dX12_drinks_32 rfl 1 rfl ?_
  refine a_isub dX12_drinks_33 ?_
  exact a_iret dX12_drinks_34 rfl rfl (by decide) (by decide)
end
set_option maxRecDepth 100000 in
set_option maxHeartbeats 4000000 in
theorem c_X12_drinks (l : Launch) (g : GG) (h0 : AH) (p0 : Nat) (p1 : Int32) (p2 : Int32) : CN l g yX12_drinks M_X12_drinks false [.ref p0, .int p1, .int p2] h0 rSi (f_X12_drinks h0 p0 p1 p2) := by
  refine CN.of (by decide) rfl (fun hh => by first | rfl | cases hh) (Nat.le_of_ble_eq_true rfl) ?_
  unfold f_X12_drinks
  refine a_gd (fun hkd => ?_)
  refine a_aload_n dX12_drinks_0 rfl 0 rfl ?_
  refine a_getr kc13 29 dX12_drinks_1 (by decide) rfl w_fieldLink_RainCoverModel_88 (fun v1 => ?_)
  refine a_iload_n dX12_drinks_4 rfl 1 rfl ?_
  refine a_iald dX12_drinks_5 (fun v2 => ?_)
  refine a_iconst (v := 1) dX12_drinks_6 (by decide) ?_
  refine a_icmp_eq 20 dX12_drinks_7 (by decide) (fun c3 => ?_) (fun c3 => ?_)
  · exact t_X12_drinks_b20 h0 h0 p0 p1 p2
  · refine a_aload_n dX12_drinks_10 rfl 0 rfl ?_
    refine a_getr kc13 29 dX12_drinks_11 (by decide) rfl w_fieldLink_RainCoverModel_88 (fun v4 => ?_)
    refine a_iload_n dX12_drinks_14 rfl 1 rfl ?_
    refine a_iald dX12_drinks_15 (fun v5 => ?_)
    refine a_iconst (v := 2) dX12_drinks_16 (by decide) ?_
    refine a_icmp_ne 35 dX12_drinks_17 (by decide) (fun c6 => ?_) (fun c6 => ?_)
    · exact t_X12_drinks_b20 h0 h0 p0 p1 p2
    · refine a_aload_n dX12_drinks_35 rfl 0 rfl ?_
      refine a_getr kc13 29 dX12_drinks_36 (by decide) rfl w_fieldLink_RainCoverModel_88 (fun v7 => ?_)
      refine a_iload_n dX12_drinks_39 rfl 1 rfl ?_
      refine a_iald dX12_drinks_40 (fun v8 => ?_)
      refine a_iconst (v := 3) dX12_drinks_41 (by decide) ?_
      refine a_icmp_ne 60 dX12_drinks_42 (by decide) (fun c9 => ?_) (fun c9 => ?_)
      · refine a_aload_n dX12_drinks_45 rfl 0 rfl ?_
        refine a_bipush (v := 41) dX12_drinks_46 (by decide) ?_
        refine a_cV_Sv (r := p0) (ci := 13) (as := [.int 41]) (st := []) dX12_drinks_48 (c_X12_body l g h0 p0 41) rfl km_X12_body (hm_X12_body) rfl (by decide) rfl (fun _ ee => g_X12_body ee) w_methodLink_RainCoverModel_458 w_instanceMethod_RainCoverModel_body__I_V w_selects_RainCoverModel_RainCoverModel_body__I_V_RainCoverModel_body__I_V ⟨⟨by decide, by decide⟩, ⟨by decide, by decide⟩⟩ (Nat.le_of_ble_eq_true rfl) (fun q10 => ?_)
        refine a_aload_n dX12_drinks_51 rfl 0 rfl ?_
        refine a_iload_n dX12_drinks_52 rfl 1 rfl ?_
        refine a_iload_n dX12_drinks_53 rfl 2 rfl ?_
        refine a_cV_Si (r := p0) (ci := 13) (as := [.int p1, .int p2]) (st := []) dX12_drinks_54 (c_X12_drinksCrop l g q10 p0 p1 p2) rfl km_X12_drinksCrop (hm_X12_drinksCrop) rfl (by decide) rfl (fun _ ee => g_X12_drinksCrop ee) w_methodLink_RainCoverModel_461 w_instanceMethod_RainCoverModel_drinksCrop__II_I w_selects_RainCoverModel_RainCoverModel_drinksCrop__II_I_RainCoverModel_drinksCrop__II_I ⟨⟨by decide, by decide⟩, ⟨by decide, by decide⟩⟩ (Nat.le_of_ble_eq_true rfl) (fun q11 => ?_)
        refine a_iconst (v := 5) dX12_drinks_57 (by decide) ?_
        refine a_ixor dX12_drinks_58 ?_
        exact a_iret dX12_drinks_59 rfl rfl (by decide) (by decide)
      · refine a_aload_n dX12_drinks_60 rfl 0 rfl ?_
        refine a_iload_n dX12_drinks_61 rfl 1 rfl ?_
        refine a_iload_n dX12_drinks_62 rfl 2 rfl ?_
        refine a_cV_Si (r := p0) (ci := 13) (as := [.int p1, .int p2]) (st := []) dX12_drinks_63 (c_X12_drinksCrop l g h0 p0 p1 p2) rfl km_X12_drinksCrop (hm_X12_drinksCrop) rfl (by decide) rfl (fun _ ee => g_X12_drinksCrop ee) w_methodLink_RainCoverModel_461 w_instanceMethod_RainCoverModel_drinksCrop__II_I w_selects_RainCoverModel_RainCoverModel_drinksCrop__II_I_RainCoverModel_drinksCrop__II_I ⟨⟨by decide, by decide⟩, ⟨by decide, by decide⟩⟩ (Nat.le_of_ble_eq_true rfl) (fun q12 => ?_)
        exact a_iret dX12_drinks_66 rfl rfl (by decide) (by decide)
theorem dX12_wiltsCrop_0 : decode cX12_wiltsCrop 0 = .ok (.aload_n 0, 1) := by decide +kernel
theorem dX12_wiltsCrop_1 : decode cX12_wiltsCrop 1 = .ok (.bipush 11, 2) := by decide +kernel
theorem dX12_wiltsCrop_3 : decode cX12_wiltsCrop 3 = .ok (.invokevirtual 458, 3) := by decide +kernel
theorem dX12_wiltsCrop_6 : decode cX12_wiltsCrop 6 = .ok (.aload_n 0, 1) := by decide +kernel
theorem dX12_wiltsCrop_7 : decode cX12_wiltsCrop 7 = .ok (.iload_n 1, 1) := by decide +kernel
theorem dX12_wiltsCrop_8 : decode cX12_wiltsCrop 8 = .ok (.iload_n 2, 1) := by decide +kernel
theorem dX12_wiltsCrop_9 : decode cX12_wiltsCrop 9 = .ok (.invokevirtual 464, 3) := by decide +kernel
theorem dX12_wiltsCrop_12 : decode cX12_wiltsCrop 12 = .ok (.iconst 3, 1) := by decide +kernel
theorem dX12_wiltsCrop_13 : decode cX12_wiltsCrop 13 = .ok (.imul, 1) := by decide +kernel
theorem dX12_wiltsCrop_14 : decode cX12_wiltsCrop 14 = .ok (.ireturn, 1) := by decide +kernel
abbrev M_X12_wiltsCrop : MI := (RX12, cX12_wiltsCrop, 3, (some .int), ({ frames := 3, cells := 0, slots := 0, locals := 65 } : Room), 0, 0, false)
def f_X12_wiltsCrop (h0 : AH) (p0 : Nat) (p1 : Int32) (p2 : Int32) : Option (Int32 × AH) := if kd h0 p0 = 13 + 1 then (f_X12_body h0 p0 11).bind fun q1 => (f_X12_drinks q1 p0 p1 p2).bind fun q2 => some ((q2.1 * 3), q2.2) else none
theorem g_X12_wiltsCrop {h0 : AH} {p0 : Nat} {p1 : Int32} {p2 : Int32} {x : (Int32 × AH)} (e : f_X12_wiltsCrop h0 p0 p1 p2 = some x) : kd h0 p0 = 13 + 1 := by
  unfold f_X12_wiltsCrop at e
  by_cases hk : kd h0 p0 = 13 + 1
  · exact hk
  · rw [if_neg hk] at e
    cases e
theorem km_X12_wiltsCrop : KM yX12_wiltsCrop M_X12_wiltsCrop 2 := ⟨in_tb 1878 (by decide +kernel) rfl, in_tb 9 (by decide +kernel) rfl, by decide +kernel, rfl, rfl⟩
theorem hm_X12_wiltsCrop : M_X12_wiltsCrop.2.2.2.2.2.1 = 0 ∧ M_X12_wiltsCrop.2.2.2.2.2.2.1 = 0 := ⟨rfl, rfl⟩
section
variable {l : Launch} {g : GG}
end
set_option maxRecDepth 100000 in
set_option maxHeartbeats 4000000 in
theorem c_X12_wiltsCrop (l : Launch) (g : GG) (h0 : AH) (p0 : Nat) (p1 : Int32) (p2 : Int32) : CN l g yX12_wiltsCrop M_X12_wiltsCrop false [.ref p0, .int p1, .int p2] h0 rSi (f_X12_wiltsCrop h0 p0 p1 p2) := by
  refine CN.of (by decide) rfl (fun hh => by first | rfl | cases hh) (Nat.le_of_ble_eq_true rfl) ?_
  unfold f_X12_wiltsCrop
  refine a_gd (fun hkd => ?_)
  refine a_aload_n dX12_wiltsCrop_0 rfl 0 rfl ?_
  refine a_bipush (v := 11) dX12_wiltsCrop_1 (by decide) ?_
  refine a_cV_Sv (r := p0) (ci := 13) (as := [.int 11]) (st := []) dX12_wiltsCrop_3 (c_X12_body l g h0 p0 11) rfl km_X12_body (hm_X12_body) rfl (by decide) rfl (fun _ ee => g_X12_body ee) w_methodLink_RainCoverModel_458 w_instanceMethod_RainCoverModel_body__I_V w_selects_RainCoverModel_RainCoverModel_body__I_V_RainCoverModel_body__I_V ⟨⟨by decide, by decide⟩, ⟨by decide, by decide⟩⟩ (Nat.le_of_ble_eq_true rfl) (fun q1 => ?_)
  refine a_aload_n dX12_wiltsCrop_6 rfl 0 rfl ?_
  refine a_iload_n dX12_wiltsCrop_7 rfl 1 rfl ?_
  refine a_iload_n dX12_wiltsCrop_8 rfl 2 rfl ?_
  refine a_cV_Si (r := p0) (ci := 13) (as := [.int p1, .int p2]) (st := []) dX12_wiltsCrop_9 (c_X12_drinks l g q1 p0 p1 p2) rfl km_X12_drinks (hm_X12_drinks) rfl (by decide) rfl (fun _ ee => g_X12_drinks ee) w_methodLink_RainCoverModel_464 w_instanceMethod_RainCoverModel_drinks__II_I w_selects_RainCoverModel_RainCoverModel_drinks__II_I_RainCoverModel_drinks__II_I ⟨⟨by decide, by decide⟩, ⟨by decide, by decide⟩⟩ (Nat.le_of_ble_eq_true rfl) (fun q2 => ?_)
  refine a_iconst (v := 3) dX12_wiltsCrop_12 (by decide) ?_
  refine a_imul dX12_wiltsCrop_13 ?_
  exact a_iret dX12_wiltsCrop_14 rfl rfl (by decide) (by decide)
theorem dX12_wilts_0 : decode cX12_wilts 0 = .ok (.aload_n 0, 1) := by decide +kernel
theorem dX12_wilts_1 : decode cX12_wilts 1 = .ok (.getfield 88, 3) := by decide +kernel
theorem dX12_wilts_4 : decode cX12_wilts 4 = .ok (.iload_n 1, 1) := by decide +kernel
theorem dX12_wilts_5 : decode cX12_wilts 5 = .ok (.iaload, 1) := by decide +kernel
theorem dX12_wilts_6 : decode cX12_wilts 6 = .ok (.iconst 2, 1) := by decide +kernel
theorem dX12_wilts_7 : decode cX12_wilts 7 = .ok (.if_icmp .ne 18, 3) := by decide +kernel
theorem dX12_wilts_10 : decode cX12_wilts 10 = .ok (.aload_n 0, 1) := by decide +kernel
theorem dX12_wilts_11 : decode cX12_wilts 11 = .ok (.bipush 30, 2) := by decide +kernel
theorem dX12_wilts_13 : decode cX12_wilts 13 = .ok (.invokevirtual 458, 3) := by decide +kernel
theorem dX12_wilts_16 : decode cX12_wilts 16 = .ok (.aload_n 0, 1) := by decide +kernel
theorem dX12_wilts_17 : decode cX12_wilts 17 = .ok (.iload_n 1, 1) := by decide +kernel
theorem dX12_wilts_18 : decode cX12_wilts 18 = .ok (.iload_n 2, 1) := by decide +kernel
theorem dX12_wilts_19 : decode cX12_wilts 19 = .ok (.invokevirtual 467, 3) := by decide +kernel
theorem dX12_wilts_22 : decode cX12_wilts 22 = .ok (.iconst 1, 1) := by decide +kernel
theorem dX12_wilts_23 : decode cX12_wilts 23 = .ok (.iadd, 1) := by decide +kernel
theorem dX12_wilts_24 : decode cX12_wilts 24 = .ok (.ireturn, 1) := by decide +kernel
theorem dX12_wilts_25 : decode cX12_wilts 25 = .ok (.aload_n 0, 1) := by decide +kernel
theorem dX12_wilts_26 : decode cX12_wilts 26 = .ok (.getfield 88, 3) := by decide +kernel
theorem dX12_wilts_29 : decode cX12_wilts 29 = .ok (.iload_n 1, 1) := by decide +kernel
theorem dX12_wilts_30 : decode cX12_wilts 30 = .ok (.iaload, 1) := by decide +kernel
theorem dX12_wilts_31 : decode cX12_wilts 31 = .ok (.iconst 3, 1) := by decide +kernel
theorem dX12_wilts_32 : decode cX12_wilts 32 = .ok (.if_icmp .ne 18, 3) := by decide +kernel
theorem dX12_wilts_35 : decode cX12_wilts 35 = .ok (.aload_n 0, 1) := by decide +kernel
theorem dX12_wilts_36 : decode cX12_wilts 36 = .ok (.bipush 40, 2) := by decide +kernel
theorem dX12_wilts_38 : decode cX12_wilts 38 = .ok (.invokevirtual 458, 3) := by decide +kernel
theorem dX12_wilts_41 : decode cX12_wilts 41 = .ok (.aload_n 0, 1) := by decide +kernel
theorem dX12_wilts_42 : decode cX12_wilts 42 = .ok (.iload_n 1, 1) := by decide +kernel
theorem dX12_wilts_43 : decode cX12_wilts 43 = .ok (.iload_n 2, 1) := by decide +kernel
theorem dX12_wilts_44 : decode cX12_wilts 44 = .ok (.invokevirtual 467, 3) := by decide +kernel
theorem dX12_wilts_47 : decode cX12_wilts 47 = .ok (.iconst 2, 1) := by decide +kernel
theorem dX12_wilts_48 : decode cX12_wilts 48 = .ok (.imul, 1) := by decide +kernel
theorem dX12_wilts_49 : decode cX12_wilts 49 = .ok (.ireturn, 1) := by decide +kernel
theorem dX12_wilts_50 : decode cX12_wilts 50 = .ok (.aload_n 0, 1) := by decide +kernel
theorem dX12_wilts_51 : decode cX12_wilts 51 = .ok (.iload_n 1, 1) := by decide +kernel
theorem dX12_wilts_52 : decode cX12_wilts 52 = .ok (.iload_n 2, 1) := by decide +kernel
theorem dX12_wilts_53 : decode cX12_wilts 53 = .ok (.invokevirtual 467, 3) := by decide +kernel
theorem dX12_wilts_56 : decode cX12_wilts 56 = .ok (.ireturn, 1) := by decide +kernel
abbrev M_X12_wilts : MI := (RX12, cX12_wilts, 3, (some .int), ({ frames := 4, cells := 0, slots := 0, locals := 87 } : Room), 0, 0, false)
def f_X12_wilts (h0 : AH) (p0 : Nat) (p1 : Int32) (p2 : Int32) : Option (Int32 × AH) := if kd h0 p0 = 13 + 1 then (xgr h0 p0 13 29).bind fun v1 => (xia h0 v1 p1).bind fun v2 => (if v2 = 2 then (f_X12_body h0 p0 30).bind fun q4 => (f_X12_wiltsCrop q4 p0 p1 p2).bind fun q5 => some ((q5.1 + 1), q5.2) else (xgr h0 p0 13 29).bind fun v6 => (xia h0 v6 p1).bind fun v7 => (if v7 = 3 then (f_X12_body h0 p0 40).bind fun q9 => (f_X12_wiltsCrop q9 p0 p1 p2).bind fun q10 => some ((q10.1 * 2), q10.2) else (f_X12_wiltsCrop h0 p0 p1 p2).bind fun q11 => some (q11.1, q11.2))) else none
theorem g_X12_wilts {h0 : AH} {p0 : Nat} {p1 : Int32} {p2 : Int32} {x : (Int32 × AH)} (e : f_X12_wilts h0 p0 p1 p2 = some x) : kd h0 p0 = 13 + 1 := by
  unfold f_X12_wilts at e
  by_cases hk : kd h0 p0 = 13 + 1
  · exact hk
  · rw [if_neg hk] at e
    cases e
theorem km_X12_wilts : KM yX12_wilts M_X12_wilts 2 := ⟨in_tb 1874 (by decide +kernel) rfl, in_tb 9 (by decide +kernel) rfl, by decide +kernel, rfl, rfl⟩
theorem hm_X12_wilts : M_X12_wilts.2.2.2.2.2.1 = 0 ∧ M_X12_wilts.2.2.2.2.2.2.1 = 0 := ⟨rfl, rfl⟩
section
variable {l : Launch} {g : GG}
end
set_option maxRecDepth 100000 in
set_option maxHeartbeats 4000000 in
theorem c_X12_wilts (l : Launch) (g : GG) (h0 : AH) (p0 : Nat) (p1 : Int32) (p2 : Int32) : CN l g yX12_wilts M_X12_wilts false [.ref p0, .int p1, .int p2] h0 rSi (f_X12_wilts h0 p0 p1 p2) := by
  refine CN.of (by decide) rfl (fun hh => by first | rfl | cases hh) (Nat.le_of_ble_eq_true rfl) ?_
  unfold f_X12_wilts
  refine a_gd (fun hkd => ?_)
  refine a_aload_n dX12_wilts_0 rfl 0 rfl ?_
  refine a_getr kc13 29 dX12_wilts_1 (by decide) rfl w_fieldLink_RainCoverModel_88 (fun v1 => ?_)
  refine a_iload_n dX12_wilts_4 rfl 1 rfl ?_
  refine a_iald dX12_wilts_5 (fun v2 => ?_)
  refine a_iconst (v := 2) dX12_wilts_6 (by decide) ?_
  refine a_icmp_ne 25 dX12_wilts_7 (by decide) (fun c3 => ?_) (fun c3 => ?_)
  · refine a_aload_n dX12_wilts_10 rfl 0 rfl ?_
    refine a_bipush (v := 30) dX12_wilts_11 (by decide) ?_
    refine a_cV_Sv (r := p0) (ci := 13) (as := [.int 30]) (st := []) dX12_wilts_13 (c_X12_body l g h0 p0 30) rfl km_X12_body (hm_X12_body) rfl (by decide) rfl (fun _ ee => g_X12_body ee) w_methodLink_RainCoverModel_458 w_instanceMethod_RainCoverModel_body__I_V w_selects_RainCoverModel_RainCoverModel_body__I_V_RainCoverModel_body__I_V ⟨⟨by decide, by decide⟩, ⟨by decide, by decide⟩⟩ (Nat.le_of_ble_eq_true rfl) (fun q4 => ?_)
    refine a_aload_n dX12_wilts_16 rfl 0 rfl ?_
    refine a_iload_n dX12_wilts_17 rfl 1 rfl ?_
    refine a_iload_n dX12_wilts_18 rfl 2 rfl ?_
    refine a_cV_Si (r := p0) (ci := 13) (as := [.int p1, .int p2]) (st := []) dX12_wilts_19 (c_X12_wiltsCrop l g q4 p0 p1 p2) rfl km_X12_wiltsCrop (hm_X12_wiltsCrop) rfl (by decide) rfl (fun _ ee => g_X12_wiltsCrop ee) w_methodLink_RainCoverModel_467 w_instanceMethod_RainCoverModel_wiltsCrop__II_I w_selects_RainCoverModel_RainCoverModel_wiltsCrop__II_I_RainCoverModel_wiltsCrop__II_I ⟨⟨by decide, by decide⟩, ⟨by decide, by decide⟩⟩ (Nat.le_of_ble_eq_true rfl) (fun q5 => ?_)
    refine a_iconst (v := 1) dX12_wilts_22 (by decide) ?_
    refine a_iadd dX12_wilts_23 ?_
    exact a_iret dX12_wilts_24 rfl rfl (by decide) (by decide)
  · refine a_aload_n dX12_wilts_25 rfl 0 rfl ?_
    refine a_getr kc13 29 dX12_wilts_26 (by decide) rfl w_fieldLink_RainCoverModel_88 (fun v6 => ?_)
    refine a_iload_n dX12_wilts_29 rfl 1 rfl ?_
    refine a_iald dX12_wilts_30 (fun v7 => ?_)
    refine a_iconst (v := 3) dX12_wilts_31 (by decide) ?_
    refine a_icmp_ne 50 dX12_wilts_32 (by decide) (fun c8 => ?_) (fun c8 => ?_)
    · refine a_aload_n dX12_wilts_35 rfl 0 rfl ?_
      refine a_bipush (v := 40) dX12_wilts_36 (by decide) ?_
      refine a_cV_Sv (r := p0) (ci := 13) (as := [.int 40]) (st := []) dX12_wilts_38 (c_X12_body l g h0 p0 40) rfl km_X12_body (hm_X12_body) rfl (by decide) rfl (fun _ ee => g_X12_body ee) w_methodLink_RainCoverModel_458 w_instanceMethod_RainCoverModel_body__I_V w_selects_RainCoverModel_RainCoverModel_body__I_V_RainCoverModel_body__I_V ⟨⟨by decide, by decide⟩, ⟨by decide, by decide⟩⟩ (Nat.le_of_ble_eq_true rfl) (fun q9 => ?_)
      refine a_aload_n dX12_wilts_41 rfl 0 rfl ?_
      refine a_iload_n dX12_wilts_42 rfl 1 rfl ?_
      refine a_iload_n dX12_wilts_43 rfl 2 rfl ?_
      refine a_cV_Si (r := p0) (ci := 13) (as := [.int p1, .int p2]) (st := []) dX12_wilts_44 (c_X12_wiltsCrop l g q9 p0 p1 p2) rfl km_X12_wiltsCrop (hm_X12_wiltsCrop) rfl (by decide) rfl (fun _ ee => g_X12_wiltsCrop ee) w_methodLink_RainCoverModel_467 w_instanceMethod_RainCoverModel_wiltsCrop__II_I w_selects_RainCoverModel_RainCoverModel_wiltsCrop__II_I_RainCoverModel_wiltsCrop__II_I ⟨⟨by decide, by decide⟩, ⟨by decide, by decide⟩⟩ (Nat.le_of_ble_eq_true rfl) (fun q10 => ?_)
      refine a_iconst (v := 2) dX12_wilts_47 (by decide) ?_
      refine a_imul dX12_wilts_48 ?_
      exact a_iret dX12_wilts_49 rfl rfl (by decide) (by decide)
    · refine a_aload_n dX12_wilts_50 rfl 0 rfl ?_
      refine a_iload_n dX12_wilts_51 rfl 1 rfl ?_
      refine a_iload_n dX12_wilts_52 rfl 2 rfl ?_
      refine a_cV_Si (r := p0) (ci := 13) (as := [.int p1, .int p2]) (st := []) dX12_wilts_53 (c_X12_wiltsCrop l g h0 p0 p1 p2) rfl km_X12_wiltsCrop (hm_X12_wiltsCrop) rfl (by decide) rfl (fun _ ee => g_X12_wiltsCrop ee) w_methodLink_RainCoverModel_467 w_instanceMethod_RainCoverModel_wiltsCrop__II_I w_selects_RainCoverModel_RainCoverModel_wiltsCrop__II_I_RainCoverModel_wiltsCrop__II_I ⟨⟨by decide, by decide⟩, ⟨by decide, by decide⟩⟩ (Nat.le_of_ble_eq_true rfl) (fun q11 => ?_)
      exact a_iret dX12_wilts_56 rfl rfl (by decide) (by decide)
theorem dX12_yieldsCrop_0 : decode cX12_yieldsCrop 0 = .ok (.aload_n 0, 1) := by decide +kernel
theorem dX12_yieldsCrop_1 : decode cX12_yieldsCrop 1 = .ok (.bipush 12, 2) := by decide +kernel
theorem dX12_yieldsCrop_3 : decode cX12_yieldsCrop 3 = .ok (.invokevirtual 458, 3) := by decide +kernel
theorem dX12_yieldsCrop_6 : decode cX12_yieldsCrop 6 = .ok (.aload_n 0, 1) := by decide +kernel
theorem dX12_yieldsCrop_7 : decode cX12_yieldsCrop 7 = .ok (.iload_n 1, 1) := by decide +kernel
theorem dX12_yieldsCrop_8 : decode cX12_yieldsCrop 8 = .ok (.iload_n 2, 1) := by decide +kernel
theorem dX12_yieldsCrop_9 : decode cX12_yieldsCrop 9 = .ok (.invokevirtual 470, 3) := by decide +kernel
theorem dX12_yieldsCrop_12 : decode cX12_yieldsCrop 12 = .ok (.istore_n 3, 1) := by decide +kernel
theorem dX12_yieldsCrop_13 : decode cX12_yieldsCrop 13 = .ok (.iload_n 3, 1) := by decide +kernel
theorem dX12_yieldsCrop_14 : decode cX12_yieldsCrop 14 = .ok (.aload_n 0, 1) := by decide +kernel
theorem dX12_yieldsCrop_15 : decode cX12_yieldsCrop 15 = .ok (.iload_n 1, 1) := by decide +kernel
theorem dX12_yieldsCrop_16 : decode cX12_yieldsCrop 16 = .ok (.iload_n 2, 1) := by decide +kernel
theorem dX12_yieldsCrop_17 : decode cX12_yieldsCrop 17 = .ok (.iconst 1, 1) := by decide +kernel
theorem dX12_yieldsCrop_18 : decode cX12_yieldsCrop 18 = .ok (.isub, 1) := by decide +kernel
theorem dX12_yieldsCrop_19 : decode cX12_yieldsCrop 19 = .ok (.invokevirtual 464, 3) := by decide +kernel
theorem dX12_yieldsCrop_22 : decode cX12_yieldsCrop 22 = .ok (.ixor, 1) := by decide +kernel
theorem dX12_yieldsCrop_23 : decode cX12_yieldsCrop 23 = .ok (.ireturn, 1) := by decide +kernel
abbrev M_X12_yieldsCrop : MI := (RX12, cX12_yieldsCrop, 4, (some .int), ({ frames := 5, cells := 0, slots := 0, locals := 109 } : Room), 0, 0, false)
def f_X12_yieldsCrop (h0 : AH) (p0 : Nat) (p1 : Int32) (p2 : Int32) : Option (Int32 × AH) := if kd h0 p0 = 13 + 1 then (f_X12_body h0 p0 12).bind fun q1 => (f_X12_wilts q1 p0 p1 p2).bind fun q2 => (f_X12_drinks q2.2 p0 p1 (p2 - 1)).bind fun q3 => some ((q2.1 ^^^ q3.1), q3.2) else none
theorem g_X12_yieldsCrop {h0 : AH} {p0 : Nat} {p1 : Int32} {p2 : Int32} {x : (Int32 × AH)} (e : f_X12_yieldsCrop h0 p0 p1 p2 = some x) : kd h0 p0 = 13 + 1 := by
  unfold f_X12_yieldsCrop at e
  by_cases hk : kd h0 p0 = 13 + 1
  · exact hk
  · rw [if_neg hk] at e
    cases e
theorem km_X12_yieldsCrop : KM yX12_yieldsCrop M_X12_yieldsCrop 2 := ⟨in_tb 1886 (by decide +kernel) rfl, in_tb 9 (by decide +kernel) rfl, by decide +kernel, rfl, rfl⟩
theorem hm_X12_yieldsCrop : M_X12_yieldsCrop.2.2.2.2.2.1 = 0 ∧ M_X12_yieldsCrop.2.2.2.2.2.2.1 = 0 := ⟨rfl, rfl⟩
section
variable {l : Launch} {g : GG}
end
set_option maxRecDepth 100000 in
set_option maxHeartbeats 4000000 in
theorem c_X12_yieldsCrop (l : Launch) (g : GG) (h0 : AH) (p0 : Nat) (p1 : Int32) (p2 : Int32) : CN l g yX12_yieldsCrop M_X12_yieldsCrop false [.ref p0, .int p1, .int p2] h0 rSi (f_X12_yieldsCrop h0 p0 p1 p2) := by
  refine CN.of (by decide) rfl (fun hh => by first | rfl | cases hh) (Nat.le_of_ble_eq_true rfl) ?_
  unfold f_X12_yieldsCrop
  refine a_gd (fun hkd => ?_)
  refine a_aload_n dX12_yieldsCrop_0 rfl 0 rfl ?_
  refine a_bipush (v := 12) dX12_yieldsCrop_1 (by decide) ?_
  refine a_cV_Sv (r := p0) (ci := 13) (as := [.int 12]) (st := []) dX12_yieldsCrop_3 (c_X12_body l g h0 p0 12) rfl km_X12_body (hm_X12_body) rfl (by decide) rfl (fun _ ee => g_X12_body ee) w_methodLink_RainCoverModel_458 w_instanceMethod_RainCoverModel_body__I_V w_selects_RainCoverModel_RainCoverModel_body__I_V_RainCoverModel_body__I_V ⟨⟨by decide, by decide⟩, ⟨by decide, by decide⟩⟩ (Nat.le_of_ble_eq_true rfl) (fun q1 => ?_)
  refine a_aload_n dX12_yieldsCrop_6 rfl 0 rfl ?_
  refine a_iload_n dX12_yieldsCrop_7 rfl 1 rfl ?_
  refine a_iload_n dX12_yieldsCrop_8 rfl 2 rfl ?_
  refine a_cV_Si (r := p0) (ci := 13) (as := [.int p1, .int p2]) (st := []) dX12_yieldsCrop_9 (c_X12_wilts l g q1 p0 p1 p2) rfl km_X12_wilts (hm_X12_wilts) rfl (by decide) rfl (fun _ ee => g_X12_wilts ee) w_methodLink_RainCoverModel_470 w_instanceMethod_RainCoverModel_wilts__II_I w_selects_RainCoverModel_RainCoverModel_wilts__II_I_RainCoverModel_wilts__II_I ⟨⟨by decide, by decide⟩, ⟨by decide, by decide⟩⟩ (Nat.le_of_ble_eq_true rfl) (fun q2 => ?_)
  refine a_istore_n (lc2 := [(3, .int q2.1), (0, .ref p0), (1, .int p1), (2, .int p2)]) dX12_yieldsCrop_12 rfl (by decide) rfl ?_
  refine a_iload_n dX12_yieldsCrop_13 rfl 0 rfl ?_
  refine a_aload_n dX12_yieldsCrop_14 rfl 1 rfl ?_
  refine a_iload_n dX12_yieldsCrop_15 rfl 2 rfl ?_
  refine a_iload_n dX12_yieldsCrop_16 rfl 3 rfl ?_
  refine a_iconst (v := 1) dX12_yieldsCrop_17 (by decide) ?_
  refine a_isub dX12_yieldsCrop_18 ?_
  refine a_cV_Si (r := p0) (ci := 13) (as := [.int p1, .int (p2 - 1)]) (st := [.int q2.1]) dX12_yieldsCrop_19 (c_X12_drinks l g q2.2 p0 p1 (p2 - 1)) rfl km_X12_drinks (hm_X12_drinks) rfl (by decide) rfl (fun _ ee => g_X12_drinks ee) w_methodLink_RainCoverModel_464 w_instanceMethod_RainCoverModel_drinks__II_I w_selects_RainCoverModel_RainCoverModel_drinks__II_I_RainCoverModel_drinks__II_I ⟨⟨by decide, by decide⟩, ⟨by decide, by decide⟩⟩ (Nat.le_of_ble_eq_true rfl) (fun q3 => ?_)
  refine a_ixor dX12_yieldsCrop_22 ?_
  exact a_iret dX12_yieldsCrop_23 rfl rfl (by decide) (by decide)
theorem dX12_yields_0 : decode cX12_yields 0 = .ok (.aload_n 0, 1) := by decide +kernel
theorem dX12_yields_1 : decode cX12_yields 1 = .ok (.getfield 88, 3) := by decide +kernel
theorem dX12_yields_4 : decode cX12_yields 4 = .ok (.iload_n 1, 1) := by decide +kernel
theorem dX12_yields_5 : decode cX12_yields 5 = .ok (.iaload, 1) := by decide +kernel
theorem dX12_yields_6 : decode cX12_yields 6 = .ok (.iconst 2, 1) := by decide +kernel
theorem dX12_yields_7 : decode cX12_yields 7 = .ok (.if_icmp .ne 18, 3) := by decide +kernel
theorem dX12_yields_10 : decode cX12_yields 10 = .ok (.aload_n 0, 1) := by decide +kernel
theorem dX12_yields_11 : decode cX12_yields 11 = .ok (.bipush 31, 2) := by decide +kernel
theorem dX12_yields_13 : decode cX12_yields 13 = .ok (.invokevirtual 458, 3) := by decide +kernel
theorem dX12_yields_16 : decode cX12_yields 16 = .ok (.aload_n 0, 1) := by decide +kernel
theorem dX12_yields_17 : decode cX12_yields 17 = .ok (.iload_n 1, 1) := by decide +kernel
theorem dX12_yields_18 : decode cX12_yields 18 = .ok (.iload_n 2, 1) := by decide +kernel
theorem dX12_yields_19 : decode cX12_yields 19 = .ok (.iconst 2, 1) := by decide +kernel
theorem dX12_yields_20 : decode cX12_yields 20 = .ok (.iadd, 1) := by decide +kernel
theorem dX12_yields_21 : decode cX12_yields 21 = .ok (.invokevirtual 473, 3) := by decide +kernel
theorem dX12_yields_24 : decode cX12_yields 24 = .ok (.ireturn, 1) := by decide +kernel
theorem dX12_yields_25 : decode cX12_yields 25 = .ok (.aload_n 0, 1) := by decide +kernel
theorem dX12_yields_26 : decode cX12_yields 26 = .ok (.iload_n 1, 1) := by decide +kernel
theorem dX12_yields_27 : decode cX12_yields 27 = .ok (.iload_n 2, 1) := by decide +kernel
theorem dX12_yields_28 : decode cX12_yields 28 = .ok (.invokevirtual 473, 3) := by decide +kernel
theorem dX12_yields_31 : decode cX12_yields 31 = .ok (.ireturn, 1) := by decide +kernel
abbrev M_X12_yields : MI := (RX12, cX12_yields, 3, (some .int), ({ frames := 6, cells := 0, slots := 0, locals := 132 } : Room), 0, 0, false)
def f_X12_yields (h0 : AH) (p0 : Nat) (p1 : Int32) (p2 : Int32) : Option (Int32 × AH) := if kd h0 p0 = 13 + 1 then (xgr h0 p0 13 29).bind fun v1 => (xia h0 v1 p1).bind fun v2 => (if v2 = 2 then (f_X12_body h0 p0 31).bind fun q4 => (f_X12_yieldsCrop q4 p0 p1 (p2 + 2)).bind fun q5 => some (q5.1, q5.2) else (f_X12_yieldsCrop h0 p0 p1 p2).bind fun q6 => some (q6.1, q6.2)) else none
theorem g_X12_yields {h0 : AH} {p0 : Nat} {p1 : Int32} {p2 : Int32} {x : (Int32 × AH)} (e : f_X12_yields h0 p0 p1 p2 = some x) : kd h0 p0 = 13 + 1 := by
  unfold f_X12_yields at e
  by_cases hk : kd h0 p0 = 13 + 1
  · exact hk
  · rw [if_neg hk] at e
    cases e
theorem km_X12_yields : KM yX12_yields M_X12_yields 2 := ⟨in_tb 1882 (by decide +kernel) rfl, in_tb 9 (by decide +kernel) rfl, by decide +kernel, rfl, rfl⟩
theorem hm_X12_yields : M_X12_yields.2.2.2.2.2.1 = 0 ∧ M_X12_yields.2.2.2.2.2.2.1 = 0 := ⟨rfl, rfl⟩
section
variable {l : Launch} {g : GG}
end
set_option maxRecDepth 100000 in
set_option maxHeartbeats 4000000 in
theorem c_X12_yields (l : Launch) (g : GG) (h0 : AH) (p0 : Nat) (p1 : Int32) (p2 : Int32) : CN l g yX12_yields M_X12_yields false [.ref p0, .int p1, .int p2] h0 rSi (f_X12_yields h0 p0 p1 p2) := by
  refine CN.of (by decide) rfl (fun hh => by first | rfl | cases hh) (Nat.le_of_ble_eq_true rfl) ?_
  unfold f_X12_yields
  refine a_gd (fun hkd => ?_)
  refine a_aload_n dX12_yields_0 rfl 0 rfl ?_
  refine a_getr kc13 29 dX12_yields_1 (by decide) rfl w_fieldLink_RainCoverModel_88 (fun v1 => ?_)
  refine a_iload_n dX12_yields_4 rfl 1 rfl ?_
  refine a_iald dX12_yields_5 (fun v2 => ?_)
  refine a_iconst (v := 2) dX12_yields_6 (by decide) ?_
  refine a_icmp_ne 25 dX12_yields_7 (by decide) (fun c3 => ?_) (fun c3 => ?_)
  · refine a_aload_n dX12_yields_10 rfl 0 rfl ?_
    refine a_bipush (v := 31) dX12_yields_11 (by decide) ?_
    refine a_cV_Sv (r := p0) (ci := 13) (as := [.int 31]) (st := []) dX12_yields_13 (c_X12_body l g h0 p0 31) rfl km_X12_body (hm_X12_body) rfl (by decide) rfl (fun _ ee => g_X12_body ee) w_methodLink_RainCoverModel_458 w_instanceMethod_RainCoverModel_body__I_V w_selects_RainCoverModel_RainCoverModel_body__I_V_RainCoverModel_body__I_V ⟨⟨by decide, by decide⟩, ⟨by decide, by decide⟩⟩ (Nat.le_of_ble_eq_true rfl) (fun q4 => ?_)
    refine a_aload_n dX12_yields_16 rfl 0 rfl ?_
    refine a_iload_n dX12_yields_17 rfl 1 rfl ?_
    refine a_iload_n dX12_yields_18 rfl 2 rfl ?_
    refine a_iconst (v := 2) dX12_yields_19 (by decide) ?_
    refine a_iadd dX12_yields_20 ?_
    refine a_cV_Si (r := p0) (ci := 13) (as := [.int p1, .int (p2 + 2)]) (st := []) dX12_yields_21 (c_X12_yieldsCrop l g q4 p0 p1 (p2 + 2)) rfl km_X12_yieldsCrop (hm_X12_yieldsCrop) rfl (by decide) rfl (fun _ ee => g_X12_yieldsCrop ee) w_methodLink_RainCoverModel_473 w_instanceMethod_RainCoverModel_yieldsCrop__II_I w_selects_RainCoverModel_RainCoverModel_yieldsCrop__II_I_RainCoverModel_yieldsCrop__II_I ⟨⟨by decide, by decide⟩, ⟨by decide, by decide⟩⟩ (Nat.le_of_ble_eq_true rfl) (fun q5 => ?_)
    exact a_iret dX12_yields_24 rfl rfl (by decide) (by decide)
  · refine a_aload_n dX12_yields_25 rfl 0 rfl ?_
    refine a_iload_n dX12_yields_26 rfl 1 rfl ?_
    refine a_iload_n dX12_yields_27 rfl 2 rfl ?_
    refine a_cV_Si (r := p0) (ci := 13) (as := [.int p1, .int p2]) (st := []) dX12_yields_28 (c_X12_yieldsCrop l g h0 p0 p1 p2) rfl km_X12_yieldsCrop (hm_X12_yieldsCrop) rfl (by decide) rfl (fun _ ee => g_X12_yieldsCrop ee) w_methodLink_RainCoverModel_473 w_instanceMethod_RainCoverModel_yieldsCrop__II_I w_selects_RainCoverModel_RainCoverModel_yieldsCrop__II_I_RainCoverModel_yieldsCrop__II_I ⟨⟨by decide, by decide⟩, ⟨by decide, by decide⟩⟩ (Nat.le_of_ble_eq_true rfl) (fun q6 => ?_)
    exact a_iret dX12_yields_31 rfl rfl (by decide) (by decide)
theorem dX12_act_0 : decode cX12_act 0 = .ok (.aload_n 0, 1) := by decide +kernel
theorem dX12_act_1 : decode cX12_act 1 = .ok (.iconst 0, 1) := by decide +kernel
theorem dX12_act_2 : decode cX12_act 2 = .ok (.putfield 455, 3) := by decide +kernel
theorem dX12_act_5 : decode cX12_act 5 = .ok (.aload_n 0, 1) := by decide +kernel
theorem dX12_act_6 : decode cX12_act 6 = .ok (.iload_n 1, 1) := by decide +kernel
theorem dX12_act_7 : decode cX12_act 7 = .ok (.invokevirtual 346, 3) := by decide +kernel
theorem dX12_act_10 : decode cX12_act 10 = .ok (.ifCond .eq 12, 3) := by decide +kernel
theorem dX12_act_13 : decode cX12_act 13 = .ok (.iload_n 2, 1) := by decide +kernel
theorem dX12_act_14 : decode cX12_act 14 = .ok (.iconst 0, 1) := by decide +kernel
theorem dX12_act_15 : decode cX12_act 15 = .ok (.iconst 2, 1) := by decide +kernel
theorem dX12_act_16 : decode cX12_act 16 = .ok (.invokestatic 204, 3) := by decide +kernel
theorem dX12_act_19 : decode cX12_act 19 = .ok (.ifCond .ne 5, 3) := by decide +kernel
theorem dX12_act_22 : decode cX12_act 22 = .ok (.iconst 0, 1) := by decide +kernel
theorem dX12_act_23 : decode cX12_act 23 = .ok (.ireturn, 1) := by decide +kernel
theorem dX12_act_24 : decode cX12_act 24 = .ok (.iload_n 2, 1) := by decide +kernel
theorem dX12_act_25 : decode cX12_act 25 = .ok (.ifCond .ne 12, 3) := by decide +kernel
theorem dX12_act_28 : decode cX12_act 28 = .ok (.aload_n 0, 1) := by decide +kernel
theorem dX12_act_29 : decode cX12_act 29 = .ok (.iload_n 1, 1) := by decide +kernel
theorem dX12_act_30 : decode cX12_act 30 = .ok (.iload_n 3, 1) := by decide +kernel
theorem dX12_act_31 : decode cX12_act 31 = .ok (.invokevirtual 464, 3) := by decide +kernel
theorem dX12_act_34 : decode cX12_act 34 = .ok (.goto 23, 3) := by decide +kernel
theorem dX12_act_37 : decode cX12_act 37 = .ok (.iload_n 2, 1) := by decide +kernel
theorem dX12_act_38 : decode cX12_act 38 = .ok (.iconst 1, 1) := by decide +kernel
theorem dX12_act_39 : decode cX12_act 39 = .ok (.if_icmp .ne 12, 3) := by decide +kernel
theorem dX12_act_42 : decode cX12_act 42 = .ok (.aload_n 0, 1) := by decide +kernel
theorem dX12_act_43 : decode cX12_act 43 = .ok (.iload_n 1, 1) := by decide +kernel
theorem dX12_act_44 : decode cX12_act 44 = .ok (.iload_n 3, 1) := by decide +kernel
theorem dX12_act_45 : decode cX12_act 45 = .ok (.invokevirtual 470, 3) := by decide +kernel
theorem dX12_act_48 : decode cX12_act 48 = .ok (.goto 9, 3) := by decide +kernel
theorem dX12_act_51 : decode cX12_act 51 = .ok (.aload_n 0, 1) := by decide +kernel
theorem dX12_act_52 : decode cX12_act 52 = .ok (.iload_n 1, 1) := by decide +kernel
theorem dX12_act_53 : decode cX12_act 53 = .ok (.iload_n 3, 1) := by decide +kernel
theorem dX12_act_54 : decode cX12_act 54 = .ok (.invokevirtual 476, 3) := by decide +kernel
theorem dX12_act_57 : decode cX12_act 57 = .ok (.ireturn, 1) := by decide +kernel
abbrev M_X12_act : MI := (RX12, cX12_act, 4, (some .int), ({ frames := 7, cells := 0, slots := 0, locals := 154 } : Room), 0, 0, false)
def f_X12_act (h0 : AH) (p0 : Nat) (p1 : Int32) (p2 : Int32) (p3 : Int32) : Option (Int32 × AH) := if kd h0 p0 = 13 + 1 then (xpi h0 p0 13 64 0).bind fun h1 => (f_X12_isFarm h1 p0 p1).bind fun v2 => (if v2 = 0 then some (0, h1) else (f_X12_in h1 p2 0 2).bind fun v4 => (if v4 = 0 then some (0, h1) else (if p2 = 0 then (f_X12_drinks h1 p0 p1 p3).bind fun q7 => some (q7.1, q7.2) else (if p2 = 1 then (f_X12_wilts h1 p0 p1 p3).bind fun q9 => some (q9.1, q9.2) else (f_X12_yields h1 p0 p1 p3).bind fun q10 => some (q10.1, q10.2))))) else none
theorem g_X12_act {h0 : AH} {p0 : Nat} {p1 : Int32} {p2 : Int32} {p3 : Int32} {x : (Int32 × AH)} (e : f_X12_act h0 p0 p1 p2 p3 = some x) : kd h0 p0 = 13 + 1 := by
  unfold f_X12_act at e
  by_cases hk : kd h0 p0 = 13 + 1
  · exact hk
  · rw [if_neg hk] at e
    cases e
theorem km_X12_act : KM yX12_act M_X12_act 3 := ⟨in_tb 1858 (by decide +kernel) rfl, in_tb 9 (by decide +kernel) rfl, by decide +kernel, rfl, rfl⟩
theorem hm_X12_act : M_X12_act.2.2.2.2.2.1 = 0 ∧ M_X12_act.2.2.2.2.2.2.1 = 0 := ⟨rfl, rfl⟩
section
variable {l : Launch} {g : GG}
end
set_option maxRecDepth 100000 in
set_option maxHeartbeats 4000000 in
theorem c_X12_act (l : Launch) (g : GG) (h0 : AH) (p0 : Nat) (p1 : Int32) (p2 : Int32) (p3 : Int32) : CN l g yX12_act M_X12_act false [.ref p0, .int p1, .int p2, .int p3] h0 rSi (f_X12_act h0 p0 p1 p2 p3) := by
  refine CN.of (by decide) rfl (fun hh => by first | rfl | cases hh) (Nat.le_of_ble_eq_true rfl) ?_
  unfold f_X12_act
  refine a_gd (fun hkd => ?_)
  refine a_aload_n dX12_act_0 rfl 0 rfl ?_
  refine a_iconst (v := 0) dX12_act_1 (by decide) ?_
  refine a_puti kc13 64 dX12_act_2 (by decide) rfl w_fieldLink_RainCoverModel_455 rfl rfl (fun h1 => ?_)
  refine a_aload_n dX12_act_5 rfl 0 rfl ?_
  refine a_iload_n dX12_act_6 rfl 1 rfl ?_
  refine a_cV_Pi (r := p0) (ci := 13) (as := [.int p1]) (st := []) dX12_act_7 (c_X12_isFarm l g h1 p0 p1) rfl km_X12_isFarm (hm_X12_isFarm) rfl (by decide) rfl (fun _ ee => g_X12_isFarm ee) w_methodLink_RainCoverModel_346 w_instanceMethod_RainCoverModel_isFarm__I_Z w_selects_RainCoverModel_RainCoverModel_isFarm__I_Z_RainCoverModel_isFarm__I_Z ⟨⟨by decide, by decide⟩, ⟨by decide, by decide⟩⟩ (Nat.le_of_ble_eq_true rfl) (fun v2 => ?_)
  refine a_if_eq 22 dX12_act_10 (by decide) (fun c3 => ?_) (fun c3 => ?_)
  · refine a_iconst (v := 0) dX12_act_22 (by decide) ?_
    exact a_iret dX12_act_23 rfl rfl (by decide) (by decide)
  · refine a_iload_n dX12_act_13 rfl 2 rfl ?_
    refine a_iconst (v := 0) dX12_act_14 (by decide) ?_
    refine a_iconst (v := 2) dX12_act_15 (by decide) ?_
    refine a_cS_Pi (as := [.int p2, .int 0, .int 2]) (st := []) dX12_act_16 (c_X12_in l g h1 p2 0 2) rfl km_X12_in (hm_X12_in) w_methodLink_RainCoverModel_204 w_static_RainCoverModel_in__III_Z ⟨⟨by decide, by decide⟩, ⟨by decide, by decide⟩⟩ (Nat.le_of_ble_eq_true rfl) (fun v4 => ?_)
    refine a_if_ne 24 dX12_act_19 (by decide) (fun c5 => ?_) (fun c5 => ?_)
    · refine a_iconst (v := 0) dX12_act_22 (by decide) ?_
      exact a_iret dX12_act_23 rfl rfl (by decide) (by decide)
    · refine a_iload_n dX12_act_24 rfl 2 rfl ?_
      refine a_if_ne 37 dX12_act_25 (by decide) (fun c6 => ?_) (fun c6 => ?_)
      · refine a_aload_n dX12_act_28 rfl 0 rfl ?_
        refine a_iload_n dX12_act_29 rfl 1 rfl ?_
        refine a_iload_n dX12_act_30 rfl 3 rfl ?_
        refine a_cV_Si (r := p0) (ci := 13) (as := [.int p1, .int p3]) (st := []) dX12_act_31 (c_X12_drinks l g h1 p0 p1 p3) rfl km_X12_drinks (hm_X12_drinks) rfl (by decide) rfl (fun _ ee => g_X12_drinks ee) w_methodLink_RainCoverModel_464 w_instanceMethod_RainCoverModel_drinks__II_I w_selects_RainCoverModel_RainCoverModel_drinks__II_I_RainCoverModel_drinks__II_I ⟨⟨by decide, by decide⟩, ⟨by decide, by decide⟩⟩ (Nat.le_of_ble_eq_true rfl) (fun q7 => ?_)
        refine a_goto 57 dX12_act_34 (by decide) ?_
        exact a_iret dX12_act_57 rfl rfl (by decide) (by decide)
      · refine a_iload_n dX12_act_37 rfl 2 rfl ?_
        refine a_iconst (v := 1) dX12_act_38 (by decide) ?_
        refine a_icmp_ne 51 dX12_act_39 (by decide) (fun c8 => ?_) (fun c8 => ?_)
        · refine a_aload_n dX12_act_42 rfl 0 rfl ?_
          refine a_iload_n dX12_act_43 rfl 1 rfl ?_
          refine a_iload_n dX12_act_44 rfl 3 rfl ?_
          refine a_cV_Si (r := p0) (ci := 13) (as := [.int p1, .int p3]) (st := []) dX12_act_45 (c_X12_wilts l g h1 p0 p1 p3) rfl km_X12_wilts (hm_X12_wilts) rfl (by decide) rfl (fun _ ee => g_X12_wilts ee) w_methodLink_RainCoverModel_470 w_instanceMethod_RainCoverModel_wilts__II_I w_selects_RainCoverModel_RainCoverModel_wilts__II_I_RainCoverModel_wilts__II_I ⟨⟨by decide, by decide⟩, ⟨by decide, by decide⟩⟩ (Nat.le_of_ble_eq_true rfl) (fun q9 => ?_)
          refine a_goto 57 dX12_act_48 (by decide) ?_
          exact a_iret dX12_act_57 rfl rfl (by decide) (by decide)
        · refine a_aload_n dX12_act_51 rfl 0 rfl ?_
          refine a_iload_n dX12_act_52 rfl 1 rfl ?_
          refine a_iload_n dX12_act_53 rfl 3 rfl ?_
          refine a_cV_Si (r := p0) (ci := 13) (as := [.int p1, .int p3]) (st := []) dX12_act_54 (c_X12_yields l g h1 p0 p1 p3) rfl km_X12_yields (hm_X12_yields) rfl (by decide) rfl (fun _ ee => g_X12_yields ee) w_methodLink_RainCoverModel_476 w_instanceMethod_RainCoverModel_yields__II_I w_selects_RainCoverModel_RainCoverModel_yields__II_I_RainCoverModel_yields__II_I ⟨⟨by decide, by decide⟩, ⟨by decide, by decide⟩⟩ (Nat.le_of_ble_eq_true rfl) (fun q10 => ?_)
          exact a_iret dX12_act_57 rfl rfl (by decide) (by decide)
theorem dX12_trace_0 : decode cX12_trace 0 = .ok (.iload_n 1, 1) := by decide +kernel
theorem dX12_trace_1 : decode cX12_trace 1 = .ok (.iconst 0, 1) := by decide +kernel
theorem dX12_trace_2 : decode cX12_trace 2 = .ok (.aload_n 0, 1) := by decide +kernel
theorem dX12_trace_3 : decode cX12_trace 3 = .ok (.getfield 455, 3) := by decide +kernel
theorem dX12_trace_6 : decode cX12_trace 6 = .ok (.bipush 20, 2) := by decide +kernel
theorem dX12_trace_8 : decode cX12_trace 8 = .ok (.if_icmp .ge 10, 3) := by decide +kernel
theorem dX12_trace_11 : decode cX12_trace 11 = .ok (.aload_n 0, 1) := by decide +kernel
theorem dX12_trace_12 : decode cX12_trace 12 = .ok (.getfield 455, 3) := by decide +kernel
theorem dX12_trace_15 : decode cX12_trace 15 = .ok (.goto 5, 3) := by decide +kernel
theorem dX12_trace_18 : decode cX12_trace 18 = .ok (.bipush 20, 2) := by decide +kernel
theorem dX12_trace_20 : decode cX12_trace 20 = .ok (.iconst 1, 1) := by decide +kernel
theorem dX12_trace_21 : decode cX12_trace 21 = .ok (.isub, 1) := by decide +kernel
theorem dX12_trace_22 : decode cX12_trace 22 = .ok (.invokestatic 204, 3) := by decide +kernel
theorem dX12_trace_25 : decode cX12_trace 25 = .ok (.ifCond .eq 12, 3) := by decide +kernel
theorem dX12_trace_28 : decode cX12_trace 28 = .ok (.aload_n 0, 1) := by decide +kernel
theorem dX12_trace_29 : decode cX12_trace 29 = .ok (.getfield 173, 3) := by decide +kernel
theorem dX12_trace_32 : decode cX12_trace 32 = .ok (.iload_n 1, 1) := by decide +kernel
theorem dX12_trace_33 : decode cX12_trace 33 = .ok (.iaload, 1) := by decide +kernel
theorem dX12_trace_34 : decode cX12_trace 34 = .ok (.goto 4, 3) := by decide +kernel
theorem dX12_trace_37 : decode cX12_trace 37 = .ok (.iconst (-1), 1) := by decide +kernel
theorem dX12_trace_38 : decode cX12_trace 38 = .ok (.ireturn, 1) := by decide +kernel
abbrev M_X12_trace : MI := (RX12, cX12_trace, 2, (some .int), ({ frames := 1, cells := 0, slots := 0, locals := 22 } : Room), 0, 0, false)
def f_X12_trace_b20 (h : AH) (x0 : Nat) (x1 : Int32) (s2 : Int32) (s3 : Int32) (s4 : Int32) : Option Int32 := (f_X12_in h s4 s3 (s2 - 1)).bind fun v4 => (if v4 = 0 then some (-1) else (xgr h x0 13 65).bind fun v6 => (xia h v6 x1).bind fun v7 => some v7)
def f_X12_trace (h : AH) (p0 : Nat) (p1 : Int32) : Option Int32 := if kd h p0 = 13 + 1 then (xgi h p0 13 64).bind fun v1 => (if 20 ≤ v1 then f_X12_trace_b20 h p0 p1 20 0 p1 else (xgi h p0 13 64).bind fun v3 => f_X12_trace_b20 h p0 p1 v3 0 p1) else none
theorem g_X12_trace {h : AH} {p0 : Nat} {p1 : Int32} {x : Int32} (e : f_X12_trace h p0 p1 = some x) : kd h p0 = 13 + 1 := by
  unfold f_X12_trace at e
  by_cases hk : kd h p0 = 13 + 1
  · exact hk
  · rw [if_neg hk] at e
    cases e
theorem km_X12_trace : KM yX12_trace M_X12_trace 1 := ⟨in_tb 1890 (by decide +kernel) rfl, in_tb 9 (by decide +kernel) rfl, by decide +kernel, rfl, rfl⟩
theorem hm_X12_trace : M_X12_trace.2.2.2.2.2.1 = 0 ∧ M_X12_trace.2.2.2.2.2.2.1 = 0 := ⟨rfl, rfl⟩
section
variable {l : Launch} {g : GG}
set_option maxRecDepth 100000 in
set_option maxHeartbeats 4000000 in
theorem t_X12_trace_b20 (h : AH) (x0 : Nat) (x1 : Int32) (s2 : Int32) (s3 : Int32) (s4 : Int32) : AO l g M_X12_trace false h 20 [(0, .ref x0), (1, .int x1)] [.int s2, .int s3, .int s4] h 0 0 (rPi h) (f_X12_trace_b20 h  x0 x1 s2 s3 s4) := by
  unfold f_X12_trace_b20
  refine a_iconst (v := 1) dX12_trace_20 (by decide) ?_
  refine a_isub dX12_trace_21 ?_
  refine a_cS_Pi (as := [.int s4, .int s3, .int (s2 - 1)]) (st := []) dX12_trace_22 (c_X12_in l g h s4 s3 (s2 - 1)) rfl km_X12_in (hm_X12_in) w_methodLink_RainCoverModel_204 w_static_RainCoverModel_in__III_Z ⟨⟨by decide, by decide⟩, ⟨by decide, by decide⟩⟩ (Nat.le_of_ble_eq_true rfl) (fun v4 => ?_)
  refine a_if_eq 37 dX12_trace_25 (by decide) (fun c5 => ?_) (fun c5 => ?_)
  · refine a_iconst (v := (-1)) dX12_trace_37 (by decide) ?_
    exact a_iret dX12_trace_38 rfl rfl (by decide) (by decide)
  · refine a_aload_n dX12_trace_28 rfl 0 rfl ?_
    refine a_getr kc13 65 dX12_trace_29 (by decide) rfl w_fieldLink_RainCoverModel_173 (fun v6 => ?_)
    refine a_iload_n dX12_trace_32 rfl 1 rfl ?_
    refine a_iald dX12_trace_33 (fun v7 => ?_)
    refine a_goto 38 dX12_trace_34 (by decide) ?_
    exact a_iret dX12_trace_38 rfl rfl (by decide) (by decide)
end
set_option maxRecDepth 100000 in
set_option maxHeartbeats 4000000 in
theorem c_X12_trace (l : Launch) (g : GG) (h : AH) (p0 : Nat) (p1 : Int32) : CN l g yX12_trace M_X12_trace false [.ref p0, .int p1] h ((rPi h)) (f_X12_trace h p0 p1) := by
  refine CN.of (by decide) rfl (fun hh => by first | rfl | cases hh) (Nat.le_of_ble_eq_true rfl) ?_
  unfold f_X12_trace
  refine a_gd (fun hkd => ?_)
  refine a_iload_n dX12_trace_0 rfl 1 rfl ?_
  refine a_iconst (v := 0) dX12_trace_1 (by decide) ?_
  refine a_aload_n dX12_trace_2 rfl 0 rfl ?_
  refine a_geti kc13 64 dX12_trace_3 (by decide) rfl w_fieldLink_RainCoverModel_455 (fun v1 => ?_)
  refine a_bipush (v := 20) dX12_trace_6 (by decide) ?_
  refine a_icmp_ge 18 dX12_trace_8 (by decide) (fun c2 => ?_) (fun c2 => ?_)
  · refine a_bipush (v := 20) dX12_trace_18 (by decide) ?_
    exact t_X12_trace_b20 h p0 p1 20 0 p1
  · refine a_aload_n dX12_trace_11 rfl 0 rfl ?_
    refine a_geti kc13 64 dX12_trace_12 (by decide) rfl w_fieldLink_RainCoverModel_455 (fun v3 => ?_)
    refine a_goto 20 dX12_trace_15 (by decide) ?_
    exact t_X12_trace_b20 h p0 p1 v3 0 p1
theorem dX12_taken_0 : decode cX12_taken 0 = .ok (.iload_n 2, 1) := by decide +kernel
theorem dX12_taken_1 : decode cX12_taken 1 = .ok (.iconst 0, 1) := by decide +kernel
theorem dX12_taken_2 : decode cX12_taken 2 = .ok (.iconst 3, 1) := by decide +kernel
theorem dX12_taken_3 : decode cX12_taken 3 = .ok (.invokestatic 204, 3) := by decide +kernel
theorem dX12_taken_6 : decode cX12_taken 6 = .ok (.ifCond .ne 6, 3) := by decide +kernel
theorem dX12_taken_9 : decode cX12_taken 9 = .ok (.bipush (-2), 2) := by decide +kernel
theorem dX12_taken_11 : decode cX12_taken 11 = .ok (.ireturn, 1) := by decide +kernel
theorem dX12_taken_12 : decode cX12_taken 12 = .ok (.aload_n 0, 1) := by decide +kernel
theorem dX12_taken_13 : decode cX12_taken 13 = .ok (.iload_n 1, 1) := by decide +kernel
theorem dX12_taken_14 : decode cX12_taken 14 = .ok (.invokevirtual 346, 3) := by decide +kernel
theorem dX12_taken_17 : decode cX12_taken 17 = .ok (.ifCond .ne 6, 3) := by decide +kernel
theorem dX12_taken_20 : decode cX12_taken 20 = .ok (.bipush (-11), 2) := by decide +kernel
theorem dX12_taken_22 : decode cX12_taken 22 = .ok (.ireturn, 1) := by decide +kernel
theorem dX12_taken_23 : decode cX12_taken 23 = .ok (.aload_n 0, 1) := by decide +kernel
theorem dX12_taken_24 : decode cX12_taken 24 = .ok (.getfield 88, 3) := by decide +kernel
theorem dX12_taken_27 : decode cX12_taken 27 = .ok (.iload_n 1, 1) := by decide +kernel
theorem dX12_taken_28 : decode cX12_taken 28 = .ok (.iaload, 1) := by decide +kernel
theorem dX12_taken_29 : decode cX12_taken 29 = .ok (.istore_n 3, 1) := by decide +kernel
theorem dX12_taken_30 : decode cX12_taken 30 = .ok (.iload_n 2, 1) := by decide +kernel
theorem dX12_taken_31 : decode cX12_taken 31 = .ok (.ifCond .eq 18, 3) := by decide +kernel
theorem dX12_taken_34 : decode cX12_taken 34 = .ok (.iload_n 3, 1) := by decide +kernel
theorem dX12_taken_35 : decode cX12_taken 35 = .ok (.iload_n 2, 1) := by decide +kernel
theorem dX12_taken_36 : decode cX12_taken 36 = .ok (.if_icmp .eq 13, 3) := by decide +kernel
theorem dX12_taken_39 : decode cX12_taken 39 = .ok (.iload_n 2, 1) := by decide +kernel
theorem dX12_taken_40 : decode cX12_taken 40 = .ok (.iconst 1, 1) := by decide +kernel
theorem dX12_taken_41 : decode cX12_taken 41 = .ok (.if_icmp .ne 12, 3) := by decide +kernel
theorem dX12_taken_44 : decode cX12_taken 44 = .ok (.iload_n 3, 1) := by decide +kernel
theorem dX12_taken_45 : decode cX12_taken 45 = .ok (.iconst 2, 1) := by decide +kernel
theorem dX12_taken_46 : decode cX12_taken 46 = .ok (.if_icmp .ne 7, 3) := by decide +kernel
theorem dX12_taken_49 : decode cX12_taken 49 = .ok (.iload_n 3, 1) := by decide +kernel
theorem dX12_taken_50 : decode cX12_taken 50 = .ok (.goto 5, 3) := by decide +kernel
theorem dX12_taken_53 : decode cX12_taken 53 = .ok (.bipush (-13), 2) := by decide +kernel
theorem dX12_taken_55 : decode cX12_taken 55 = .ok (.ireturn, 1) := by decide +kernel
abbrev M_X12_taken : MI := (RX12, cX12_taken, 4, (some .int), ({ frames := 2, cells := 0, slots := 0, locals := 43 } : Room), 0, 0, false)
def f_X12_taken_b49 (h : AH) (x3 : Int32) : Option Int32 := some x3
def f_X12_taken (h : AH) (p0 : Nat) (p1 : Int32) (p2 : Int32) : Option Int32 := if kd h p0 = 13 + 1 then (f_X12_in h p2 0 3).bind fun v1 => (if v1 = 0 then some (-2) else (f_X12_isFarm h p0 p1).bind fun v3 => (if v3 = 0 then some (-11) else (xgr h p0 13 29).bind fun v5 => (xia h v5 p1).bind fun v6 => (if p2 = 0 then f_X12_taken_b49 h v6 else (if v6 = p2 then f_X12_taken_b49 h v6 else (if p2 = 1 then (if v6 = 2 then f_X12_taken_b49 h v6 else some (-13)) else some (-13)))))) else none
theorem g_X12_taken {h : AH} {p0 : Nat} {p1 : Int32} {p2 : Int32} {x : Int32} (e : f_X12_taken h p0 p1 p2 = some x) : kd h p0 = 13 + 1 := by
  unfold f_X12_taken at e
  by_cases hk : kd h p0 = 13 + 1
  · exact hk
  · rw [if_neg hk] at e
    cases e
theorem km_X12_taken : KM yX12_taken M_X12_taken 2 := ⟨in_tb 1894 (by decide +kernel) rfl, in_tb 9 (by decide +kernel) rfl, by decide +kernel, rfl, rfl⟩
theorem hm_X12_taken : M_X12_taken.2.2.2.2.2.1 = 0 ∧ M_X12_taken.2.2.2.2.2.2.1 = 0 := ⟨rfl, rfl⟩
section
variable {l : Launch} {g : GG}
set_option maxRecDepth 100000 in
set_option maxHeartbeats 4000000 in
theorem t_X12_taken_b49 (h : AH) (x3 : Int32) : AO l g M_X12_taken false h 49 [(3, .int x3)] [] h 0 0 (rPi h) (f_X12_taken_b49 h  x3) := by
  unfold f_X12_taken_b49
  refine a_iload_n dX12_taken_49 rfl 0 rfl ?_
  refine a_goto 55 dX12_taken_50 (by decide) ?_
  exact a_iret dX12_taken_55 rfl rfl (by decide) (by decide)
end
set_option maxRecDepth 100000 in
set_option maxHeartbeats 4000000 in
theorem c_X12_taken (l : Launch) (g : GG) (h : AH) (p0 : Nat) (p1 : Int32) (p2 : Int32) : CN l g yX12_taken M_X12_taken false [.ref p0, .int p1, .int p2] h ((rPi h)) (f_X12_taken h p0 p1 p2) := by
  refine CN.of (by decide) rfl (fun hh => by first | rfl | cases hh) (Nat.le_of_ble_eq_true rfl) ?_
  unfold f_X12_taken
  refine a_gd (fun hkd => ?_)
  refine a_iload_n dX12_taken_0 rfl 2 rfl ?_
  refine a_iconst (v := 0) dX12_taken_1 (by decide) ?_
  refine a_iconst (v := 3) dX12_taken_2 (by decide) ?_
  refine a_cS_Pi (as := [.int p2, .int 0, .int 3]) (st := []) dX12_taken_3 (c_X12_in l g h p2 0 3) rfl km_X12_in (hm_X12_in) w_methodLink_RainCoverModel_204 w_static_RainCoverModel_in__III_Z ⟨⟨by decide, by decide⟩, ⟨by decide, by decide⟩⟩ (Nat.le_of_ble_eq_true rfl) (fun v1 => ?_)
  refine a_if_ne 12 dX12_taken_6 (by decide) (fun c2 => ?_) (fun c2 => ?_)
  · refine a_bipush (v := (-2)) dX12_taken_9 (by decide) ?_
    exact a_iret dX12_taken_11 rfl rfl (by decide) (by decide)
  · refine a_aload_n dX12_taken_12 rfl 0 rfl ?_
    refine a_iload_n dX12_taken_13 rfl 1 rfl ?_
    refine a_cV_Pi (r := p0) (ci := 13) (as := [.int p1]) (st := []) dX12_taken_14 (c_X12_isFarm l g h p0 p1) rfl km_X12_isFarm (hm_X12_isFarm) rfl (by decide) rfl (fun _ ee => g_X12_isFarm ee) w_methodLink_RainCoverModel_346 w_instanceMethod_RainCoverModel_isFarm__I_Z w_selects_RainCoverModel_RainCoverModel_isFarm__I_Z_RainCoverModel_isFarm__I_Z ⟨⟨by decide, by decide⟩, ⟨by decide, by decide⟩⟩ (Nat.le_of_ble_eq_true rfl) (fun v3 => ?_)
    refine a_if_ne 23 dX12_taken_17 (by decide) (fun c4 => ?_) (fun c4 => ?_)
    · refine a_bipush (v := (-11)) dX12_taken_20 (by decide) ?_
      exact a_iret dX12_taken_22 rfl rfl (by decide) (by decide)
    · refine a_aload_n dX12_taken_23 rfl 0 rfl ?_
      refine a_getr kc13 29 dX12_taken_24 (by decide) rfl w_fieldLink_RainCoverModel_88 (fun v5 => ?_)
      refine a_iload_n dX12_taken_27 rfl 1 rfl ?_
      refine a_iald dX12_taken_28 (fun v6 => ?_)
      refine a_istore_n (lc2 := [(3, .int v6), (0, .ref p0), (1, .int p1), (2, .int p2)]) dX12_taken_29 rfl (by decide) rfl ?_
      refine a_iload_n dX12_taken_30 rfl 3 rfl ?_
      refine a_if_eq 49 dX12_taken_31 (by decide) (fun c7 => ?_) (fun c7 => ?_)
      · refine a_pick (lc2 := [(3, .int v6)]) [0] rfl ?_
        exact t_X12_taken_b49 h v6
      · refine a_iload_n dX12_taken_34 rfl 0 rfl ?_
        refine a_iload_n dX12_taken_35 rfl 3 rfl ?_
        refine a_icmp_eq 49 dX12_taken_36 (by decide) (fun c8 => ?_) (fun c8 => ?_)
        · refine a_pick (lc2 := [(3, .int v6)]) [0] rfl ?_
          exact t_X12_taken_b49 h v6
        · refine a_iload_n dX12_taken_39 rfl 3 rfl ?_
          refine a_iconst (v := 1) dX12_taken_40 (by decide) ?_
          refine a_icmp_ne 53 dX12_taken_41 (by decide) (fun c9 => ?_) (fun c9 => ?_)
          · refine a_iload_n dX12_taken_44 rfl 0 rfl ?_
            refine a_iconst (v := 2) dX12_taken_45 (by decide) ?_
            refine a_icmp_ne 53 dX12_taken_46 (by decide) (fun c10 => ?_) (fun c10 => ?_)
            · refine a_pick (lc2 := [(3, .int v6)]) [0] rfl ?_
              exact t_X12_taken_b49 h v6
            · refine a_bipush (v := (-13)) dX12_taken_53 (by decide) ?_
              exact a_iret dX12_taken_55 rfl rfl (by decide) (by decide)
          · refine a_bipush (v := (-13)) dX12_taken_53 (by decide) ?_
            exact a_iret dX12_taken_55 rfl rfl (by decide) (by decide)
theorem dX12_count_0 : decode cX12_count 0 = .ok (.iload_n 1, 1) := by decide +kernel
theorem dX12_count_1 : decode cX12_count 1 = .ok (.tableswitch 123 0 11 #[63, 68, 73, 78, 83, 88, 93, 98, 103, 108, 113, 118], 63) := by decide +kernel
theorem dX12_count_64 : decode cX12_count 64 = .ok (.aload_n 0, 1) := by decide +kernel
theorem dX12_count_65 : decode cX12_count 65 = .ok (.getfield 208, 3) := by decide +kernel
theorem dX12_count_68 : decode cX12_count 68 = .ok (.ireturn, 1) := by decide +kernel
theorem dX12_count_69 : decode cX12_count 69 = .ok (.aload_n 0, 1) := by decide +kernel
theorem dX12_count_70 : decode cX12_count 70 = .ok (.getfield 228, 3) := by decide +kernel
theorem dX12_count_73 : decode cX12_count 73 = .ok (.ireturn, 1) := by decide +kernel
theorem dX12_count_74 : decode cX12_count 74 = .ok (.aload_n 0, 1) := by decide +kernel
theorem dX12_count_75 : decode cX12_count 75 = .ok (.getfield 211, 3) := by decide +kernel
theorem dX12_count_78 : decode cX12_count 78 = .ok (.ireturn, 1) := by decide +kernel
theorem dX12_count_79 : decode cX12_count 79 = .ok (.aload_n 0, 1) := by decide +kernel
theorem dX12_count_80 : decode cX12_count 80 = .ok (.getfield 214, 3) := by decide +kernel
theorem dX12_count_83 : decode cX12_count 83 = .ok (.ireturn, 1) := by decide +kernel
theorem dX12_count_84 : decode cX12_count 84 = .ok (.aload_n 0, 1) := by decide +kernel
theorem dX12_count_85 : decode cX12_count 85 = .ok (.getfield 340, 3) := by decide +kernel
theorem dX12_count_88 : decode cX12_count 88 = .ok (.ireturn, 1) := by decide +kernel
theorem dX12_count_89 : decode cX12_count 89 = .ok (.aload_n 0, 1) := by decide +kernel
theorem dX12_count_90 : decode cX12_count 90 = .ok (.getfield 364, 3) := by decide +kernel
theorem dX12_count_93 : decode cX12_count 93 = .ok (.ireturn, 1) := by decide +kernel
theorem dX12_count_94 : decode cX12_count 94 = .ok (.aload_n 0, 1) := by decide +kernel
theorem dX12_count_95 : decode cX12_count 95 = .ok (.getfield 380, 3) := by decide +kernel
theorem dX12_count_98 : decode cX12_count 98 = .ok (.ireturn, 1) := by decide +kernel
theorem dX12_count_99 : decode cX12_count 99 = .ok (.aload_n 0, 1) := by decide +kernel
theorem dX12_count_100 : decode cX12_count 100 = .ok (.getfield 421, 3) := by decide +kernel
theorem dX12_count_103 : decode cX12_count 103 = .ok (.ireturn, 1) := by decide +kernel
theorem dX12_count_104 : decode cX12_count 104 = .ok (.aload_n 0, 1) := by decide +kernel
theorem dX12_count_105 : decode cX12_count 105 = .ok (.getfield 273, 3) := by decide +kernel
theorem dX12_count_108 : decode cX12_count 108 = .ok (.ireturn, 1) := by decide +kernel
theorem dX12_count_109 : decode cX12_count 109 = .ok (.aload_n 0, 1) := by decide +kernel
theorem dX12_count_110 : decode cX12_count 110 = .ok (.getfield 434, 3) := by decide +kernel
theorem dX12_count_113 : decode cX12_count 113 = .ok (.ireturn, 1) := by decide +kernel
theorem dX12_count_114 : decode cX12_count 114 = .ok (.aload_n 0, 1) := by decide +kernel
theorem dX12_count_115 : decode cX12_count 115 = .ok (.getfield 455, 3) := by decide +kernel
theorem dX12_count_118 : decode cX12_count 118 = .ok (.ireturn, 1) := by decide +kernel
theorem dX12_count_119 : decode cX12_count 119 = .ok (.aload_n 0, 1) := by decide +kernel
theorem dX12_count_120 : decode cX12_count 120 = .ok (.getfield 439, 3) := by decide +kernel
theorem dX12_count_123 : decode cX12_count 123 = .ok (.ireturn, 1) := by decide +kernel
theorem dX12_count_124 : decode cX12_count 124 = .ok (.bipush (-2), 2) := by decide +kernel
theorem dX12_count_126 : decode cX12_count 126 = .ok (.ireturn, 1) := by decide +kernel
abbrev M_X12_count : MI := (RX12, cX12_count, 2, (some .int), ({ frames := 0, cells := 0, slots := 0, locals := 0 } : Room), 0, 0, false)
def f_X12_count (h : AH) (p0 : Nat) (p1 : Int32) : Option Int32 := if kd h p0 = 13 + 1 then (if p1 = 0 then (xgi h p0 13 0).bind fun v2 => some v2 else (if p1 = 1 then (xgi h p0 13 7).bind fun v4 => some v4 else (if p1 = 2 then (xgi h p0 13 13).bind fun v6 => some v6 else (if p1 = 3 then (xgi h p0 13 26).bind fun v8 => some v8 else (if p1 = 4 then (xgi h p0 13 36).bind fun v10 => some v10 else (if p1 = 5 then (xgi h p0 13 41).bind fun v12 => some v12 else (if p1 = 6 then (xgi h p0 13 46).bind fun v14 => some v14 else (if p1 = 7 then (xgi h p0 13 49).bind fun v16 => some v16 else (if p1 = 8 then (xgi h p0 13 63).bind fun v18 => some v18 else (if p1 = 9 then (xgi h p0 13 54).bind fun v20 => some v20 else (if p1 = 10 then (xgi h p0 13 64).bind fun v22 => some v22 else (if p1 = 11 then (xgi h p0 13 55).bind fun v24 => some v24 else some (-2))))))))))))) else none
theorem g_X12_count {h : AH} {p0 : Nat} {p1 : Int32} {x : Int32} (e : f_X12_count h p0 p1 = some x) : kd h p0 = 13 + 1 := by
  unfold f_X12_count at e
  by_cases hk : kd h p0 = 13 + 1
  · exact hk
  · rw [if_neg hk] at e
    cases e
theorem km_X12_count : KM yX12_count M_X12_count 1 := ⟨in_tb 1898 (by decide +kernel) rfl, in_tb 9 (by decide +kernel) rfl, by decide +kernel, rfl, rfl⟩
theorem hm_X12_count : M_X12_count.2.2.2.2.2.1 = 0 ∧ M_X12_count.2.2.2.2.2.2.1 = 0 := ⟨rfl, rfl⟩
section
variable {l : Launch} {g : GG}
end
set_option maxRecDepth 100000 in
set_option maxHeartbeats 4000000 in
theorem c_X12_count (l : Launch) (g : GG) (h : AH) (p0 : Nat) (p1 : Int32) : CN l g yX12_count M_X12_count false [.ref p0, .int p1] h ((rPi h)) (f_X12_count h p0 p1) := by
  refine CN.of (by decide) rfl (fun hh => by first | rfl | cases hh) (Nat.le_of_ble_eq_true rfl) ?_
  unfold f_X12_count
  refine a_gd (fun hkd => ?_)
  refine a_iload_n dX12_count_0 rfl 1 rfl ?_
  refine a_swt (v := 0) 64 dX12_count_1 (by decide) (by decide) (fun c1 => ?_) (fun c1 => ?_)
  · refine a_aload_n dX12_count_64 rfl 0 rfl ?_
    refine a_geti kc13 0 dX12_count_65 (by decide) rfl w_fieldLink_RainCoverModel_208 (fun v2 => ?_)
    exact a_iret dX12_count_68 rfl rfl (by decide) (by decide)
  refine a_swt (v := 1) 69 dX12_count_1 (by decide) (by decide) (fun c3 => ?_) (fun c3 => ?_)
  · refine a_aload_n dX12_count_69 rfl 0 rfl ?_
    refine a_geti kc13 7 dX12_count_70 (by decide) rfl w_fieldLink_RainCoverModel_228 (fun v4 => ?_)
    exact a_iret dX12_count_73 rfl rfl (by decide) (by decide)
  refine a_swt (v := 2) 74 dX12_count_1 (by decide) (by decide) (fun c5 => ?_) (fun c5 => ?_)
  · refine a_aload_n dX12_count_74 rfl 0 rfl ?_
    refine a_geti kc13 13 dX12_count_75 (by decide) rfl w_fieldLink_RainCoverModel_211 (fun v6 => ?_)
    exact a_iret dX12_count_78 rfl rfl (by decide) (by decide)
  refine a_swt (v := 3) 79 dX12_count_1 (by decide) (by decide) (fun c7 => ?_) (fun c7 => ?_)
  · refine a_aload_n dX12_count_79 rfl 0 rfl ?_
    refine a_geti kc13 26 dX12_count_80 (by decide) rfl w_fieldLink_RainCoverModel_214 (fun v8 => ?_)
    exact a_iret dX12_count_83 rfl rfl (by decide) (by decide)
  refine a_swt (v := 4) 84 dX12_count_1 (by decide) (by decide) (fun c9 => ?_) (fun c9 => ?_)
  · refine a_aload_n dX12_count_84 rfl 0 rfl ?_
    refine a_geti kc13 36 dX12_count_85 (by decide) rfl w_fieldLink_RainCoverModel_340 (fun v10 => ?_)
    exact a_iret dX12_count_88 rfl rfl (by decide) (by decide)
  refine a_swt (v := 5) 89 dX12_count_1 (by decide) (by decide) (fun c11 => ?_) (fun c11 => ?_)
  · refine a_aload_n dX12_count_89 rfl 0 rfl ?_
    refine a_geti kc13 41 dX12_count_90 (by decide) rfl w_fieldLink_RainCoverModel_364 (fun v12 => ?_)
    exact a_iret dX12_count_93 rfl rfl (by decide) (by decide)
  refine a_swt (v := 6) 94 dX12_count_1 (by decide) (by decide) (fun c13 => ?_) (fun c13 => ?_)
  · refine a_aload_n dX12_count_94 rfl 0 rfl ?_
    refine a_geti kc13 46 dX12_count_95 (by decide) rfl w_fieldLink_RainCoverModel_380 (fun v14 => ?_)
    exact a_iret dX12_count_98 rfl rfl (by decide) (by decide)
  refine a_swt (v := 7) 99 dX12_count_1 (by decide) (by decide) (fun c15 => ?_) (fun c15 => ?_)
  · refine a_aload_n dX12_count_99 rfl 0 rfl ?_
    refine a_geti kc13 49 dX12_count_100 (by decide) rfl w_fieldLink_RainCoverModel_421 (fun v16 => ?_)
    exact a_iret dX12_count_103 rfl rfl (by decide) (by decide)
  refine a_swt (v := 8) 104 dX12_count_1 (by decide) (by decide) (fun c17 => ?_) (fun c17 => ?_)
  · refine a_aload_n dX12_count_104 rfl 0 rfl ?_
    refine a_geti kc13 63 dX12_count_105 (by decide) rfl w_fieldLink_RainCoverModel_273 (fun v18 => ?_)
    exact a_iret dX12_count_108 rfl rfl (by decide) (by decide)
  refine a_swt (v := 9) 109 dX12_count_1 (by decide) (by decide) (fun c19 => ?_) (fun c19 => ?_)
  · refine a_aload_n dX12_count_109 rfl 0 rfl ?_
    refine a_geti kc13 54 dX12_count_110 (by decide) rfl w_fieldLink_RainCoverModel_434 (fun v20 => ?_)
    exact a_iret dX12_count_113 rfl rfl (by decide) (by decide)
  refine a_swt (v := 10) 114 dX12_count_1 (by decide) (by decide) (fun c21 => ?_) (fun c21 => ?_)
  · refine a_aload_n dX12_count_114 rfl 0 rfl ?_
    refine a_geti kc13 64 dX12_count_115 (by decide) rfl w_fieldLink_RainCoverModel_455 (fun v22 => ?_)
    exact a_iret dX12_count_118 rfl rfl (by decide) (by decide)
  refine a_swt (v := 11) 119 dX12_count_1 (by decide) (by decide) (fun c23 => ?_) (fun c23 => ?_)
  · refine a_aload_n dX12_count_119 rfl 0 rfl ?_
    refine a_geti kc13 55 dX12_count_120 (by decide) rfl w_fieldLink_RainCoverModel_439 (fun v24 => ?_)
    exact a_iret dX12_count_123 rfl rfl (by decide) (by decide)
  refine a_swtd (vs := [0, 1, 2, 3, 4, 5, 6, 7, 8, 9, 10, 11]) 124 dX12_count_1 (by decide) (by decide) (List.forall_mem_cons.mpr ⟨c1, List.forall_mem_cons.mpr ⟨c3, List.forall_mem_cons.mpr ⟨c5, List.forall_mem_cons.mpr ⟨c7, List.forall_mem_cons.mpr ⟨c9, List.forall_mem_cons.mpr ⟨c11, List.forall_mem_cons.mpr ⟨c13, List.forall_mem_cons.mpr ⟨c15, List.forall_mem_cons.mpr ⟨c17, List.forall_mem_cons.mpr ⟨c19, List.forall_mem_cons.mpr ⟨c21, List.forall_mem_cons.mpr ⟨c23, fun _ hh => absurd hh List.not_mem_nil⟩⟩⟩⟩⟩⟩⟩⟩⟩⟩⟩⟩) ?_
  refine a_bipush (v := (-2)) dX12_count_124 (by decide) ?_
  exact a_iret dX12_count_126 rfl rfl (by decide) (by decide)
theorem dX12_sheet_0 : decode cX12_sheet 0 = .ok (.iload_n 1, 1) := by decide +kernel
theorem dX12_sheet_1 : decode cX12_sheet 1 = .ok (.invokestatic 246, 3) := by decide +kernel
theorem dX12_sheet_4 : decode cX12_sheet 4 = .ok (.ifCond .eq 23, 3) := by decide +kernel
theorem dX12_sheet_7 : decode cX12_sheet 7 = .ok (.iload_n 2, 1) := by decide +kernel
theorem dX12_sheet_8 : decode cX12_sheet 8 = .ok (.iconst (-1), 1) := by decide +kernel
theorem dX12_sheet_9 : decode cX12_sheet 9 = .ok (.iconst 2, 1) := by decide +kernel
theorem dX12_sheet_10 : decode cX12_sheet 10 = .ok (.invokestatic 204, 3) := by decide +kernel
theorem dX12_sheet_13 : decode cX12_sheet 13 = .ok (.ifCond .eq 14, 3) := by decide +kernel
theorem dX12_sheet_16 : decode cX12_sheet 16 = .ok (.iload_n 2, 1) := by decide +kernel
theorem dX12_sheet_17 : decode cX12_sheet 17 = .ok (.iconst (-1), 1) := by decide +kernel
theorem dX12_sheet_18 : decode cX12_sheet 18 = .ok (.if_icmp .eq 12, 3) := by decide +kernel
theorem dX12_sheet_21 : decode cX12_sheet 21 = .ok (.iload_n 3, 1) := by decide +kernel
theorem dX12_sheet_22 : decode cX12_sheet 22 = .ok (.bipush 40, 2) := by decide +kernel
theorem dX12_sheet_24 : decode cX12_sheet 24 = .ok (.if_icmp .le 6, 3) := by decide +kernel
theorem dX12_sheet_27 : decode cX12_sheet 27 = .ok (.bipush (-2), 2) := by decide +kernel
theorem dX12_sheet_29 : decode cX12_sheet 29 = .ok (.ireturn, 1) := by decide +kernel
theorem dX12_sheet_30 : decode cX12_sheet 30 = .ok (.iload_n 2, 1) := by decide +kernel
theorem dX12_sheet_31 : decode cX12_sheet 31 = .ok (.iconst (-1), 1) := by decide +kernel
theorem dX12_sheet_32 : decode cX12_sheet 32 = .ok (.if_icmp .eq 10, 3) := by decide +kernel
theorem dX12_sheet_35 : decode cX12_sheet 35 = .ok (.iload_n 3, 1) := by decide +kernel
theorem dX12_sheet_36 : decode cX12_sheet 36 = .ok (.ifCond .ge 6, 3) := by decide +kernel
theorem dX12_sheet_39 : decode cX12_sheet 39 = .ok (.bipush (-14), 2) := by decide +kernel
theorem dX12_sheet_41 : decode cX12_sheet 41 = .ok (.ireturn, 1) := by decide +kernel
theorem dX12_sheet_42 : decode cX12_sheet 42 = .ok (.aload_n 0, 1) := by decide +kernel
theorem dX12_sheet_43 : decode cX12_sheet 43 = .ok (.getfield 176, 3) := by decide +kernel
theorem dX12_sheet_46 : decode cX12_sheet 46 = .ok (.iload_n 1, 1) := by decide +kernel
theorem dX12_sheet_47 : decode cX12_sheet 47 = .ok (.iload_n 2, 1) := by decide +kernel
theorem dX12_sheet_48 : decode cX12_sheet 48 = .ok (.iastore, 1) := by decide +kernel
theorem dX12_sheet_49 : decode cX12_sheet 49 = .ok (.aload_n 0, 1) := by decide +kernel
theorem dX12_sheet_50 : decode cX12_sheet 50 = .ok (.getfield 179, 3) := by decide +kernel
theorem dX12_sheet_53 : decode cX12_sheet 53 = .ok (.iload_n 1, 1) := by decide +kernel
theorem dX12_sheet_54 : decode cX12_sheet 54 = .ok (.iload_n 2, 1) := by decide +kernel
theorem dX12_sheet_55 : decode cX12_sheet 55 = .ok (.iconst (-1), 1) := by decide +kernel
theorem dX12_sheet_56 : decode cX12_sheet 56 = .ok (.if_icmp .ne 7, 3) := by decide +kernel
theorem dX12_sheet_59 : decode cX12_sheet 59 = .ok (.iconst 0, 1) := by decide +kernel
theorem dX12_sheet_60 : decode cX12_sheet 60 = .ok (.goto 4, 3) := by decide +kernel
theorem dX12_sheet_63 : decode cX12_sheet 63 = .ok (.iload_n 3, 1) := by decide +kernel
theorem dX12_sheet_64 : decode cX12_sheet 64 = .ok (.iastore, 1) := by decide +kernel
theorem dX12_sheet_65 : decode cX12_sheet 65 = .ok (.bipush 40, 2) := by decide +kernel
theorem dX12_sheet_67 : decode cX12_sheet 67 = .ok (.iload_n 1, 1) := by decide +kernel
theorem dX12_sheet_68 : decode cX12_sheet 68 = .ok (.imul, 1) := by decide +kernel
theorem dX12_sheet_69 : decode cX12_sheet 69 = .ok (.istore 4, 2) := by decide +kernel
theorem dX12_sheet_71 : decode cX12_sheet 71 = .ok (.iload 4, 2) := by decide +kernel
theorem dX12_sheet_73 : decode cX12_sheet 73 = .ok (.bipush 40, 2) := by decide +kernel
theorem dX12_sheet_75 : decode cX12_sheet 75 = .ok (.iload_n 1, 1) := by decide +kernel
theorem dX12_sheet_76 : decode cX12_sheet 76 = .ok (.imul, 1) := by decide +kernel
theorem dX12_sheet_77 : decode cX12_sheet 77 = .ok (.bipush 40, 2) := by decide +kernel
theorem dX12_sheet_79 : decode cX12_sheet 79 = .ok (.iadd, 1) := by decide +kernel
theorem dX12_sheet_80 : decode cX12_sheet 80 = .ok (.if_icmp .ge 17, 3) := by decide +kernel
theorem dX12_sheet_83 : decode cX12_sheet 83 = .ok (.aload_n 0, 1) := by decide +kernel
theorem dX12_sheet_84 : decode cX12_sheet 84 = .ok (.getfield 182, 3) := by decide +kernel
theorem dX12_sheet_87 : decode cX12_sheet 87 = .ok (.iload 4, 2) := by decide +kernel
theorem dX12_sheet_89 : decode cX12_sheet 89 = .ok (.iconst 0, 1) := by decide +kernel
theorem dX12_sheet_90 : decode cX12_sheet 90 = .ok (.iastore, 1) := by decide +kernel
theorem dX12_sheet_91 : decode cX12_sheet 91 = .ok (.iinc 4 1, 3) := by decide +kernel
theorem dX12_sheet_94 : decode cX12_sheet 94 = .ok (.goto (-23), 3) := by decide +kernel
theorem dX12_sheet_97 : decode cX12_sheet 97 = .ok (.iconst 1, 1) := by decide +kernel
theorem dX12_sheet_98 : decode cX12_sheet 98 = .ok (.ireturn, 1) := by decide +kernel
abbrev M_X12_sheet : MI := (RX12, cX12_sheet, 5, (some .int), ({ frames := 2, cells := 0, slots := 0, locals := 42 } : Room), 0, 0, false)
def f_X12_sheet_b71_body (N : Nat) (K71 : AH → Nat → Int32 → Int32 → Option (Int32 × AH)) (h : AH) (x0 : Nat) (x1 : Int32) (x4 : Int32) : Option (Int32 × AH) := (if ((40 * x1) + 40) ≤ x4 then some (1, h) else (xgr h x0 13 68).bind fun v15 => (xis h v15 x4 0).bind fun h16 => K71 h16 x0 x1 (x4 + 1))
def f_X12_sheet_b71 (N : Nat) : Nat → AH → Nat → Int32 → Int32 → Option (Int32 × AH)
  | 0, _, _, _, _ => none
  | n + 1, h, x0, x1, x4 => f_X12_sheet_b71_body N  (f_X12_sheet_b71 N  n) h x0 x1 x4
def f_X12_sheet_b64 (N : Nat) (h : AH) (x0 : Nat) (x1 : Int32) (s2 : Int32) (s3 : Int32) (s4 : Nat) : Option (Int32 × AH) := (xis h s4 s3 s2).bind fun h13 => f_X12_sheet_b71 N N h13 x0 x1 (40 * x1)
def f_X12_sheet_b42 (N : Nat) (h : AH) (x0 : Nat) (x1 : Int32) (x2 : Int32) (x3 : Int32) : Option (Int32 × AH) := (xgr h x0 13 66).bind fun v9 => (xis h v9 x1 x2).bind fun h10 => (xgr h10 x0 13 67).bind fun v11 => (if x2 = (-1) then f_X12_sheet_b64 N h10 x0 x1 0 x1 v11 else f_X12_sheet_b64 N h10 x0 x1 x3 x1 v11)
def f_X12_sheet_b30 (N : Nat) (h : AH) (x0 : Nat) (x1 : Int32) (x2 : Int32) (x3 : Int32) : Option (Int32 × AH) := (if x2 = (-1) then f_X12_sheet_b42 N h x0 x1 x2 x3 else (if 0 ≤ x3 then f_X12_sheet_b42 N h x0 x1 x2 x3 else some ((-14), h)))
def f_X12_sheet (h0 : AH) (N : Nat) (p0 : Nat) (p1 : Int32) (p2 : Int32) (p3 : Int32) : Option (Int32 × AH) := if kd h0 p0 = 13 + 1 then (f_X12_isSheet h0 p1).bind fun v1 => (if v1 = 0 then some ((-2), h0) else (f_X12_in h0 p2 (-1) 2).bind fun v3 => (if v3 = 0 then some ((-2), h0) else (if p2 = (-1) then f_X12_sheet_b30 N h0 p0 p1 p2 p3 else (if p3 ≤ 40 then f_X12_sheet_b30 N h0 p0 p1 p2 p3 else some ((-2), h0))))) else none
theorem g_X12_sheet {h0 : AH} {N : Nat} {p0 : Nat} {p1 : Int32} {p2 : Int32} {p3 : Int32} {x : (Int32 × AH)} (e : f_X12_sheet h0 N p0 p1 p2 p3 = some x) : kd h0 p0 = 13 + 1 := by
  unfold f_X12_sheet at e
  by_cases hk : kd h0 p0 = 13 + 1
  · exact hk
  · rw [if_neg hk] at e
    cases e
theorem km_X12_sheet : KM yX12_sheet M_X12_sheet 3 := ⟨in_tb 1902 (by decide +kernel) rfl, in_tb 9 (by decide +kernel) rfl, by decide +kernel, rfl, rfl⟩
theorem hm_X12_sheet : M_X12_sheet.2.2.2.2.2.1 = 0 ∧ M_X12_sheet.2.2.2.2.2.2.1 = 0 := ⟨rfl, rfl⟩
section
variable {l : Launch} {g : GG}
set_option maxRecDepth 100000 in
set_option maxHeartbeats 4000000 in
theorem t_X12_sheet_b71_body (h0 : AH) (N : Nat) (K71 : AH → Nat → Int32 → Int32 → Option (Int32 × AH)) (hK71 : ∀ (z : AH) (z0 : Nat) (z1 : Int32) (z2 : Int32), AO l g M_X12_sheet false h0 71 [(0, .ref z0), (1, .int z1), (4, .int z2)] [] z 0 0 rSi (K71 z z0 z1 z2)) (h : AH) (x0 : Nat) (x1 : Int32) (x4 : Int32) : AO l g M_X12_sheet false h0 71 [(0, .ref x0), (1, .int x1), (4, .int x4)] [] h 0 0 rSi (f_X12_sheet_b71_body N K71 h x0 x1 x4) := by
  unfold f_X12_sheet_b71_body
  refine a_iload dX12_sheet_71 2 rfl ?_
  refine a_bipush (v := 40) dX12_sheet_73 (by decide) ?_
  refine a_iload_n dX12_sheet_75 rfl 1 rfl ?_
  refine a_imul dX12_sheet_76 ?_
  refine a_bipush (v := 40) dX12_sheet_77 (by decide) ?_
  refine a_iadd dX12_sheet_79 ?_
  refine a_icmp_ge 97 dX12_sheet_80 (by decide) (fun c14 => ?_) (fun c14 => ?_)
  · refine a_iconst (v := 1) dX12_sheet_97 (by decide) ?_
    exact a_iret dX12_sheet_98 rfl rfl (by decide) (by decide)
  · refine a_aload_n dX12_sheet_83 rfl 0 rfl ?_
    refine a_getr kc13 68 dX12_sheet_84 (by decide) rfl w_fieldLink_RainCoverModel_182 (fun v15 => ?_)
    refine a_iload dX12_sheet_87 2 rfl ?_
    refine a_iconst (v := 0) dX12_sheet_89 (by decide) ?_
    refine a_iast dX12_sheet_90 (fun h16 => ?_)
    refine a_iinc (q := 2) (v := (x4 + 1)) (lc2 := [(4, .int (x4 + 1)), (0, .ref x0), (1, .int x1)]) dX12_sheet_91 rfl rfl (by decide) rfl ?_
    refine a_goto 71 dX12_sheet_94 (by decide) ?_
    refine a_pick (lc2 := [(0, .ref x0), (1, .int x1), (4, .int (x4 + 1))]) [1, 2, 0] rfl ?_
    exact hK71 h16 x0 x1 (x4 + 1)
set_option maxRecDepth 100000 in
set_option maxHeartbeats 4000000 in
theorem t_X12_sheet_b71 (h0 : AH) (N : Nat) : ∀ (n : Nat) (h : AH) (x0 : Nat) (x1 : Int32) (x4 : Int32) , AO l g M_X12_sheet false h0 71 [(0, .ref x0), (1, .int x1), (4, .int x4)] [] h 0 0 rSi (f_X12_sheet_b71 N  n h x0 x1 x4) := by
  intro n
  induction n with
  | zero => intro h x0 x1 x4; exact a_eq rfl a_none
  | succ n ih => intro h x0 x1 x4; exact a_eq rfl (t_X12_sheet_b71_body h0 N  (f_X12_sheet_b71 N  n) ih h x0 x1 x4)
set_option maxRecDepth 100000 in
set_option maxHeartbeats 4000000 in
theorem t_X12_sheet_b64 (h0 : AH) (N : Nat) (h : AH) (x0 : Nat) (x1 : Int32) (s2 : Int32) (s3 : Int32) (s4 : Nat) : AO l g M_X12_sheet false h0 64 [(0, .ref x0), (1, .int x1)] [.int s2, .int s3, .ref s4] h 0 0 rSi (f_X12_sheet_b64 N  h x0 x1 s2 s3 s4) := by
  unfold f_X12_sheet_b64
  refine a_iast dX12_sheet_64 (fun h13 => ?_)
  refine a_bipush (v := 40) dX12_sheet_65 (by decide) ?_
  refine a_iload_n dX12_sheet_67 rfl 1 rfl ?_
  refine a_imul dX12_sheet_68 ?_
  refine a_istore (lc2 := [(4, .int (40 * x1)), (0, .ref x0), (1, .int x1)]) dX12_sheet_69 (by decide) rfl ?_
  refine a_pick (lc2 := [(0, .ref x0), (1, .int x1), (4, .int (40 * x1))]) [1, 2, 0] rfl ?_
  exact t_X12_sheet_b71 h0 N N h13 x0 x1 (40 * x1)
set_option maxRecDepth 100000 in
set_option maxHeartbeats 4000000 in
theorem t_X12_sheet_b42 (h0 : AH) (N : Nat) (h : AH) (x0 : Nat) (x1 : Int32) (x2 : Int32) (x3 : Int32) : AO l g M_X12_sheet false h0 42 [(0, .ref x0), (1, .int x1), (2, .int x2), (3, .int x3)] [] h 0 0 rSi (f_X12_sheet_b42 N  h x0 x1 x2 x3) := by
  unfold f_X12_sheet_b42
  refine a_aload_n dX12_sheet_42 rfl 0 rfl ?_
  refine a_getr kc13 66 dX12_sheet_43 (by decide) rfl w_fieldLink_RainCoverModel_176 (fun v9 => ?_)
  refine a_iload_n dX12_sheet_46 rfl 1 rfl ?_
  refine a_iload_n dX12_sheet_47 rfl 2 rfl ?_
  refine a_iast dX12_sheet_48 (fun h10 => ?_)
  refine a_aload_n dX12_sheet_49 rfl 0 rfl ?_
  refine a_getr kc13 67 dX12_sheet_50 (by decide) rfl w_fieldLink_RainCoverModel_179 (fun v11 => ?_)
  refine a_iload_n dX12_sheet_53 rfl 1 rfl ?_
  refine a_iload_n dX12_sheet_54 rfl 2 rfl ?_
  refine a_iconst (v := (-1)) dX12_sheet_55 (by decide) ?_
  refine a_icmp_ne 63 dX12_sheet_56 (by decide) (fun c12 => ?_) (fun c12 => ?_)
  · refine a_iconst (v := 0) dX12_sheet_59 (by decide) ?_
    refine a_goto 64 dX12_sheet_60 (by decide) ?_
    refine a_pick (lc2 := [(0, .ref x0), (1, .int x1)]) [0, 1] rfl ?_
    exact t_X12_sheet_b64 h0 N h10 x0 x1 0 x1 v11
  · refine a_iload_n dX12_sheet_63 rfl 3 rfl ?_
    refine a_pick (lc2 := [(0, .ref x0), (1, .int x1)]) [0, 1] rfl ?_
    exact t_X12_sheet_b64 h0 N h10 x0 x1 x3 x1 v11
set_option maxRecDepth 100000 in
set_option maxHeartbeats 4000000 in
theorem t_X12_sheet_b30 (h0 : AH) (N : Nat) (h : AH) (x0 : Nat) (x1 : Int32) (x2 : Int32) (x3 : Int32) : AO l g M_X12_sheet false h0 30 [(0, .ref x0), (1, .int x1), (2, .int x2), (3, .int x3)] [] h 0 0 rSi (f_X12_sheet_b30 N  h x0 x1 x2 x3) := by
  unfold f_X12_sheet_b30
  refine a_iload_n dX12_sheet_30 rfl 2 rfl ?_
  refine a_iconst (v := (-1)) dX12_sheet_31 (by decide) ?_
  refine a_icmp_eq 42 dX12_sheet_32 (by decide) (fun c7 => ?_) (fun c7 => ?_)
  · exact t_X12_sheet_b42 h0 N h x0 x1 x2 x3
  · refine a_iload_n dX12_sheet_35 rfl 3 rfl ?_
    refine a_if_ge 42 dX12_sheet_36 (by decide) (fun c8 => ?_) (fun c8 => ?_)
    · exact t_X12_sheet_b42 h0 N h x0 x1 x2 x3
    · refine a_bipush (v := (-14)) dX12_sheet_39 (by decide) ?_
      exact a_iret dX12_sheet_41 rfl rfl (by decide) (by decide)
end
set_option maxRecDepth 100000 in
set_option maxHeartbeats 4000000 in
theorem c_X12_sheet (l : Launch) (g : GG) (h0 : AH) (N : Nat) (p0 : Nat) (p1 : Int32) (p2 : Int32) (p3 : Int32) : CN l g yX12_sheet M_X12_sheet false [.ref p0, .int p1, .int p2, .int p3] h0 rSi (f_X12_sheet h0 N p0 p1 p2 p3) := by
  refine CN.of (by decide) rfl (fun hh => by first | rfl | cases hh) (Nat.le_of_ble_eq_true rfl) ?_
  unfold f_X12_sheet
  refine a_gd (fun hkd => ?_)
  refine a_iload_n dX12_sheet_0 rfl 1 rfl ?_
  refine a_cS_Pi (as := [.int p1]) (st := []) dX12_sheet_1 (c_X12_isSheet l g h0 p1) rfl km_X12_isSheet (hm_X12_isSheet) w_methodLink_RainCoverModel_246 w_static_RainCoverModel_isSheet__I_Z ⟨⟨by decide, by decide⟩, ⟨by decide, by decide⟩⟩ (Nat.le_of_ble_eq_true rfl) (fun v1 => ?_)
  refine a_if_eq 27 dX12_sheet_4 (by decide) (fun c2 => ?_) (fun c2 => ?_)
  · refine a_bipush (v := (-2)) dX12_sheet_27 (by decide) ?_
    exact a_iret dX12_sheet_29 rfl rfl (by decide) (by decide)
  · refine a_iload_n dX12_sheet_7 rfl 2 rfl ?_
    refine a_iconst (v := (-1)) dX12_sheet_8 (by decide) ?_
    refine a_iconst (v := 2) dX12_sheet_9 (by decide) ?_
    refine a_cS_Pi (as := [.int p2, .int (-1), .int 2]) (st := []) dX12_sheet_10 (c_X12_in l g h0 p2 (-1) 2) rfl km_X12_in (hm_X12_in) w_methodLink_RainCoverModel_204 w_static_RainCoverModel_in__III_Z ⟨⟨by decide, by decide⟩, ⟨by decide, by decide⟩⟩ (Nat.le_of_ble_eq_true rfl) (fun v3 => ?_)
    refine a_if_eq 27 dX12_sheet_13 (by decide) (fun c4 => ?_) (fun c4 => ?_)
    · refine a_bipush (v := (-2)) dX12_sheet_27 (by decide) ?_
      exact a_iret dX12_sheet_29 rfl rfl (by decide) (by decide)
    · refine a_iload_n dX12_sheet_16 rfl 2 rfl ?_
      refine a_iconst (v := (-1)) dX12_sheet_17 (by decide) ?_
      refine a_icmp_eq 30 dX12_sheet_18 (by decide) (fun c5 => ?_) (fun c5 => ?_)
      · exact t_X12_sheet_b30 h0 N h0 p0 p1 p2 p3
      · refine a_iload_n dX12_sheet_21 rfl 3 rfl ?_
        refine a_bipush (v := 40) dX12_sheet_22 (by decide) ?_
        refine a_icmp_le 30 dX12_sheet_24 (by decide) (fun c6 => ?_) (fun c6 => ?_)
        · exact t_X12_sheet_b30 h0 N h0 p0 p1 p2 p3
        · refine a_bipush (v := (-2)) dX12_sheet_27 (by decide) ?_
          exact a_iret dX12_sheet_29 rfl rfl (by decide) (by decide)
theorem dX12_cell_0 : decode cX12_cell 0 = .ok (.iload_n 1, 1) := by decide +kernel
theorem dX12_cell_1 : decode cX12_cell 1 = .ok (.invokestatic 246, 3) := by decide +kernel
theorem dX12_cell_4 : decode cX12_cell 4 = .ok (.ifCond .ne 6, 3) := by decide +kernel
theorem dX12_cell_7 : decode cX12_cell 7 = .ok (.bipush (-2), 2) := by decide +kernel
theorem dX12_cell_9 : decode cX12_cell 9 = .ok (.ireturn, 1) := by decide +kernel
theorem dX12_cell_10 : decode cX12_cell 10 = .ok (.aload_n 0, 1) := by decide +kernel
theorem dX12_cell_11 : decode cX12_cell 11 = .ok (.getfield 176, 3) := by decide +kernel
theorem dX12_cell_14 : decode cX12_cell 14 = .ok (.iload_n 1, 1) := by decide +kernel
theorem dX12_cell_15 : decode cX12_cell 15 = .ok (.iaload, 1) := by decide +kernel
theorem dX12_cell_16 : decode cX12_cell 16 = .ok (.iconst (-1), 1) := by decide +kernel
theorem dX12_cell_17 : decode cX12_cell 17 = .ok (.if_icmp .ne 6, 3) := by decide +kernel
theorem dX12_cell_20 : decode cX12_cell 20 = .ok (.bipush (-11), 2) := by decide +kernel
theorem dX12_cell_22 : decode cX12_cell 22 = .ok (.ireturn, 1) := by decide +kernel
theorem dX12_cell_23 : decode cX12_cell 23 = .ok (.iload_n 2, 1) := by decide +kernel
theorem dX12_cell_24 : decode cX12_cell 24 = .ok (.iconst 0, 1) := by decide +kernel
theorem dX12_cell_25 : decode cX12_cell 25 = .ok (.aload_n 0, 1) := by decide +kernel
theorem dX12_cell_26 : decode cX12_cell 26 = .ok (.getfield 179, 3) := by decide +kernel
theorem dX12_cell_29 : decode cX12_cell 29 = .ok (.iload_n 1, 1) := by decide +kernel
theorem dX12_cell_30 : decode cX12_cell 30 = .ok (.iaload, 1) := by decide +kernel
theorem dX12_cell_31 : decode cX12_cell 31 = .ok (.iconst 1, 1) := by decide +kernel
theorem dX12_cell_32 : decode cX12_cell 32 = .ok (.isub, 1) := by decide +kernel
theorem dX12_cell_33 : decode cX12_cell 33 = .ok (.invokestatic 204, 3) := by decide +kernel
theorem dX12_cell_36 : decode cX12_cell 36 = .ok (.ifCond .ne 6, 3) := by decide +kernel
theorem dX12_cell_39 : decode cX12_cell 39 = .ok (.bipush (-12), 2) := by decide +kernel
theorem dX12_cell_41 : decode cX12_cell 41 = .ok (.ireturn, 1) := by decide +kernel
theorem dX12_cell_42 : decode cX12_cell 42 = .ok (.aload_n 0, 1) := by decide +kernel
theorem dX12_cell_43 : decode cX12_cell 43 = .ok (.getfield 182, 3) := by decide +kernel
theorem dX12_cell_46 : decode cX12_cell 46 = .ok (.bipush 40, 2) := by decide +kernel
theorem dX12_cell_48 : decode cX12_cell 48 = .ok (.iload_n 1, 1) := by decide +kernel
theorem dX12_cell_49 : decode cX12_cell 49 = .ok (.imul, 1) := by decide +kernel
theorem dX12_cell_50 : decode cX12_cell 50 = .ok (.iload_n 2, 1) := by decide +kernel
theorem dX12_cell_51 : decode cX12_cell 51 = .ok (.iadd, 1) := by decide +kernel
theorem dX12_cell_52 : decode cX12_cell 52 = .ok (.aload_n 0, 1) := by decide +kernel
theorem dX12_cell_53 : decode cX12_cell 53 = .ok (.getfield 176, 3) := by decide +kernel
theorem dX12_cell_56 : decode cX12_cell 56 = .ok (.iload_n 1, 1) := by decide +kernel
theorem dX12_cell_57 : decode cX12_cell 57 = .ok (.iaload, 1) := by decide +kernel
theorem dX12_cell_58 : decode cX12_cell 58 = .ok (.ifCond .ne 8, 3) := by decide +kernel
theorem dX12_cell_61 : decode cX12_cell 61 = .ok (.iload_n 3, 1) := by decide +kernel
theorem dX12_cell_62 : decode cX12_cell 62 = .ok (.i2b, 1) := by decide +kernel
theorem dX12_cell_63 : decode cX12_cell 63 = .ok (.goto 19, 3) := by decide +kernel
theorem dX12_cell_66 : decode cX12_cell 66 = .ok (.aload_n 0, 1) := by decide +kernel
theorem dX12_cell_67 : decode cX12_cell 67 = .ok (.getfield 176, 3) := by decide +kernel
theorem dX12_cell_70 : decode cX12_cell 70 = .ok (.iload_n 1, 1) := by decide +kernel
theorem dX12_cell_71 : decode cX12_cell 71 = .ok (.iaload, 1) := by decide +kernel
theorem dX12_cell_72 : decode cX12_cell 72 = .ok (.iconst 1, 1) := by decide +kernel
theorem dX12_cell_73 : decode cX12_cell 73 = .ok (.if_icmp .ne 8, 3) := by decide +kernel
theorem dX12_cell_76 : decode cX12_cell 76 = .ok (.iload_n 3, 1) := by decide +kernel
theorem dX12_cell_77 : decode cX12_cell 77 = .ok (.i2s, 1) := by decide +kernel
theorem dX12_cell_78 : decode cX12_cell 78 = .ok (.goto 4, 3) := by decide +kernel
theorem dX12_cell_81 : decode cX12_cell 81 = .ok (.iload_n 3, 1) := by decide +kernel
theorem dX12_cell_82 : decode cX12_cell 82 = .ok (.iastore, 1) := by decide +kernel
theorem dX12_cell_83 : decode cX12_cell 83 = .ok (.iconst 1, 1) := by decide +kernel
theorem dX12_cell_84 : decode cX12_cell 84 = .ok (.ireturn, 1) := by decide +kernel
abbrev M_X12_cell : MI := (RX12, cX12_cell, 4, (some .int), ({ frames := 2, cells := 0, slots := 0, locals := 42 } : Room), 0, 0, false)
def f_X12_cell_b82 (h : AH) (s0 : Int32) (s1 : Int32) (s2 : Nat) : Option (Int32 × AH) := (xis h s2 s1 s0).bind fun h17 => some (1, h17)
def f_X12_cell (h0 : AH) (p0 : Nat) (p1 : Int32) (p2 : Int32) (p3 : Int32) : Option (Int32 × AH) := if kd h0 p0 = 13 + 1 then (f_X12_isSheet h0 p1).bind fun v1 => (if v1 = 0 then some ((-2), h0) else (xgr h0 p0 13 66).bind fun v3 => (xia h0 v3 p1).bind fun v4 => (if v4 = (-1) then some ((-11), h0) else (xgr h0 p0 13 67).bind fun v6 => (xia h0 v6 p1).bind fun v7 => (f_X12_in h0 p2 0 (v7 - 1)).bind fun v8 => (if v8 = 0 then some ((-12), h0) else (xgr h0 p0 13 68).bind fun v10 => (xgr h0 p0 13 66).bind fun v11 => (xia h0 v11 p1).bind fun v12 => (if v12 = 0 then f_X12_cell_b82 h0 (p3 : Int32).toInt8.toInt32 ((40 * p1) + p2) v10 else (xgr h0 p0 13 66).bind fun v14 => (xia h0 v14 p1).bind fun v15 => (if v15 = 1 then f_X12_cell_b82 h0 (p3 : Int32).toInt16.toInt32 ((40 * p1) + p2) v10 else f_X12_cell_b82 h0 p3 ((40 * p1) + p2) v10))))) else none
theorem g_X12_cell {h0 : AH} {p0 : Nat} {p1 : Int32} {p2 : Int32} {p3 : Int32} {x : (Int32 × AH)} (e : f_X12_cell h0 p0 p1 p2 p3 = some x) : kd h0 p0 = 13 + 1 := by
  unfold f_X12_cell at e
  by_cases hk : kd h0 p0 = 13 + 1
  · exact hk
  · rw [if_neg hk] at e
    cases e
theorem km_X12_cell : KM yX12_cell M_X12_cell 3 := ⟨in_tb 1906 (by decide +kernel) rfl, in_tb 9 (by decide +kernel) rfl, by decide +kernel, rfl, rfl⟩
theorem hm_X12_cell : M_X12_cell.2.2.2.2.2.1 = 0 ∧ M_X12_cell.2.2.2.2.2.2.1 = 0 := ⟨rfl, rfl⟩
section
variable {l : Launch} {g : GG}
set_option maxRecDepth 100000 in
set_option maxHeartbeats 4000000 in
theorem t_X12_cell_b82 (h0 : AH) (h : AH) (s0 : Int32) (s1 : Int32) (s2 : Nat) : AO l g M_X12_cell false h0 82 [] [.int s0, .int s1, .ref s2] h 0 0 rSi (f_X12_cell_b82  h s0 s1 s2) := by
  unfold f_X12_cell_b82
  refine a_iast dX12_cell_82 (fun h17 => ?_)
  refine a_iconst (v := 1) dX12_cell_83 (by decide) ?_
  exact a_iret dX12_cell_84 rfl rfl (by decide) (by decide)
end
set_option maxRecDepth 100000 in
set_option maxHeartbeats 4000000 in
theorem c_X12_cell (l : Launch) (g : GG) (h0 : AH) (p0 : Nat) (p1 : Int32) (p2 : Int32) (p3 : Int32) : CN l g yX12_cell M_X12_cell false [.ref p0, .int p1, .int p2, .int p3] h0 rSi (f_X12_cell h0 p0 p1 p2 p3) := by
  refine CN.of (by decide) rfl (fun hh => by first | rfl | cases hh) (Nat.le_of_ble_eq_true rfl) ?_
  unfold f_X12_cell
  refine a_gd (fun hkd => ?_)
  refine a_iload_n dX12_cell_0 rfl 1 rfl ?_
  refine a_cS_Pi (as := [.int p1]) (st := []) dX12_cell_1 (c_X12_isSheet l g h0 p1) rfl km_X12_isSheet (hm_X12_isSheet) w_methodLink_RainCoverModel_246 w_static_RainCoverModel_isSheet__I_Z ⟨⟨by decide, by decide⟩, ⟨by decide, by decide⟩⟩ (Nat.le_of_ble_eq_true rfl) (fun v1 => ?_)
  refine a_if_ne 10 dX12_cell_4 (by decide) (fun c2 => ?_) (fun c2 => ?_)
  · refine a_bipush (v := (-2)) dX12_cell_7 (by decide) ?_
    exact a_iret dX12_cell_9 rfl rfl (by decide) (by decide)
  · refine a_aload_n dX12_cell_10 rfl 0 rfl ?_
    refine a_getr kc13 66 dX12_cell_11 (by decide) rfl w_fieldLink_RainCoverModel_176 (fun v3 => ?_)
    refine a_iload_n dX12_cell_14 rfl 1 rfl ?_
    refine a_iald dX12_cell_15 (fun v4 => ?_)
    refine a_iconst (v := (-1)) dX12_cell_16 (by decide) ?_
    refine a_icmp_ne 23 dX12_cell_17 (by decide) (fun c5 => ?_) (fun c5 => ?_)
    · refine a_bipush (v := (-11)) dX12_cell_20 (by decide) ?_
      exact a_iret dX12_cell_22 rfl rfl (by decide) (by decide)
    · refine a_iload_n dX12_cell_23 rfl 2 rfl ?_
      refine a_iconst (v := 0) dX12_cell_24 (by decide) ?_
      refine a_aload_n dX12_cell_25 rfl 0 rfl ?_
      refine a_getr kc13 67 dX12_cell_26 (by decide) rfl w_fieldLink_RainCoverModel_179 (fun v6 => ?_)
      refine a_iload_n dX12_cell_29 rfl 1 rfl ?_
      refine a_iald dX12_cell_30 (fun v7 => ?_)
      refine a_iconst (v := 1) dX12_cell_31 (by decide) ?_
      refine a_isub dX12_cell_32 ?_
      refine a_cS_Pi (as := [.int p2, .int 0, .int (v7 - 1)]) (st := []) dX12_cell_33 (c_X12_in l g h0 p2 0 (v7 - 1)) rfl km_X12_in (hm_X12_in) w_methodLink_RainCoverModel_204 w_static_RainCoverModel_in__III_Z ⟨⟨by decide, by decide⟩, ⟨by decide, by decide⟩⟩ (Nat.le_of_ble_eq_true rfl) (fun v8 => ?_)
      refine a_if_ne 42 dX12_cell_36 (by decide) (fun c9 => ?_) (fun c9 => ?_)
      · refine a_bipush (v := (-12)) dX12_cell_39 (by decide) ?_
        exact a_iret dX12_cell_41 rfl rfl (by decide) (by decide)
      · refine a_aload_n dX12_cell_42 rfl 0 rfl ?_
        refine a_getr kc13 68 dX12_cell_43 (by decide) rfl w_fieldLink_RainCoverModel_182 (fun v10 => ?_)
        refine a_bipush (v := 40) dX12_cell_46 (by decide) ?_
        refine a_iload_n dX12_cell_48 rfl 1 rfl ?_
        refine a_imul dX12_cell_49 ?_
        refine a_iload_n dX12_cell_50 rfl 2 rfl ?_
        refine a_iadd dX12_cell_51 ?_
        refine a_aload_n dX12_cell_52 rfl 0 rfl ?_
        refine a_getr kc13 66 dX12_cell_53 (by decide) rfl w_fieldLink_RainCoverModel_176 (fun v11 => ?_)
        refine a_iload_n dX12_cell_56 rfl 1 rfl ?_
        refine a_iald dX12_cell_57 (fun v12 => ?_)
        refine a_if_ne 66 dX12_cell_58 (by decide) (fun c13 => ?_) (fun c13 => ?_)
        · refine a_iload_n dX12_cell_61 rfl 3 rfl ?_
          refine a_i2b dX12_cell_62 ?_
          refine a_goto 82 dX12_cell_63 (by decide) ?_
          refine a_pick (lc2 := []) [] rfl ?_
          exact t_X12_cell_b82 h0 h0 (p3 : Int32).toInt8.toInt32 ((40 * p1) + p2) v10
        · refine a_aload_n dX12_cell_66 rfl 0 rfl ?_
          refine a_getr kc13 66 dX12_cell_67 (by decide) rfl w_fieldLink_RainCoverModel_176 (fun v14 => ?_)
          refine a_iload_n dX12_cell_70 rfl 1 rfl ?_
          refine a_iald dX12_cell_71 (fun v15 => ?_)
          refine a_iconst (v := 1) dX12_cell_72 (by decide) ?_
          refine a_icmp_ne 81 dX12_cell_73 (by decide) (fun c16 => ?_) (fun c16 => ?_)
          · refine a_iload_n dX12_cell_76 rfl 3 rfl ?_
            refine a_i2s dX12_cell_77 ?_
            refine a_goto 82 dX12_cell_78 (by decide) ?_
            refine a_pick (lc2 := []) [] rfl ?_
            exact t_X12_cell_b82 h0 h0 (p3 : Int32).toInt16.toInt32 ((40 * p1) + p2) v10
          · refine a_iload_n dX12_cell_81 rfl 3 rfl ?_
            refine a_pick (lc2 := []) [] rfl ?_
            exact t_X12_cell_b82 h0 h0 p3 ((40 * p1) + p2) v10
theorem dX12_copy_0 : decode cX12_copy 0 = .ok (.iload_n 1, 1) := by decide +kernel
theorem dX12_copy_1 : decode cX12_copy 1 = .ok (.invokestatic 246, 3) := by decide +kernel
theorem dX12_copy_4 : decode cX12_copy 4 = .ok (.ifCond .eq 10, 3) := by decide +kernel
theorem dX12_copy_7 : decode cX12_copy 7 = .ok (.iload_n 3, 1) := by decide +kernel
theorem dX12_copy_8 : decode cX12_copy 8 = .ok (.invokestatic 246, 3) := by decide +kernel
theorem dX12_copy_11 : decode cX12_copy 11 = .ok (.ifCond .ne 6, 3) := by decide +kernel
theorem dX12_copy_14 : decode cX12_copy 14 = .ok (.bipush (-2), 2) := by decide +kernel
theorem dX12_copy_16 : decode cX12_copy 16 = .ok (.ireturn, 1) := by decide +kernel
theorem dX12_copy_17 : decode cX12_copy 17 = .ok (.aload_n 0, 1) := by decide +kernel
theorem dX12_copy_18 : decode cX12_copy 18 = .ok (.getfield 176, 3) := by decide +kernel
theorem dX12_copy_21 : decode cX12_copy 21 = .ok (.iload_n 1, 1) := by decide +kernel
theorem dX12_copy_22 : decode cX12_copy 22 = .ok (.iaload, 1) := by decide +kernel
theorem dX12_copy_23 : decode cX12_copy 23 = .ok (.iconst (-1), 1) := by decide +kernel
theorem dX12_copy_24 : decode cX12_copy 24 = .ok (.if_icmp .eq 13, 3) := by decide +kernel
theorem dX12_copy_27 : decode cX12_copy 27 = .ok (.aload_n 0, 1) := by decide +kernel
theorem dX12_copy_28 : decode cX12_copy 28 = .ok (.getfield 176, 3) := by decide +kernel
theorem dX12_copy_31 : decode cX12_copy 31 = .ok (.iload_n 3, 1) := by decide +kernel
theorem dX12_copy_32 : decode cX12_copy 32 = .ok (.iaload, 1) := by decide +kernel
theorem dX12_copy_33 : decode cX12_copy 33 = .ok (.iconst (-1), 1) := by decide +kernel
theorem dX12_copy_34 : decode cX12_copy 34 = .ok (.if_icmp .ne 6, 3) := by decide +kernel
theorem dX12_copy_37 : decode cX12_copy 37 = .ok (.bipush (-11), 2) := by decide +kernel
theorem dX12_copy_39 : decode cX12_copy 39 = .ok (.ireturn, 1) := by decide +kernel
theorem dX12_copy_40 : decode cX12_copy 40 = .ok (.aload_n 0, 1) := by decide +kernel
theorem dX12_copy_41 : decode cX12_copy 41 = .ok (.getfield 176, 3) := by decide +kernel
theorem dX12_copy_44 : decode cX12_copy 44 = .ok (.iload_n 1, 1) := by decide +kernel
theorem dX12_copy_45 : decode cX12_copy 45 = .ok (.iaload, 1) := by decide +kernel
theorem dX12_copy_46 : decode cX12_copy 46 = .ok (.aload_n 0, 1) := by decide +kernel
theorem dX12_copy_47 : decode cX12_copy 47 = .ok (.getfield 176, 3) := by decide +kernel
theorem dX12_copy_50 : decode cX12_copy 50 = .ok (.iload_n 3, 1) := by decide +kernel
theorem dX12_copy_51 : decode cX12_copy 51 = .ok (.iaload, 1) := by decide +kernel
theorem dX12_copy_52 : decode cX12_copy 52 = .ok (.if_icmp .eq 6, 3) := by decide +kernel
theorem dX12_copy_55 : decode cX12_copy 55 = .ok (.bipush (-13), 2) := by decide +kernel
theorem dX12_copy_57 : decode cX12_copy 57 = .ok (.ireturn, 1) := by decide +kernel
theorem dX12_copy_58 : decode cX12_copy 58 = .ok (.iload 5, 2) := by decide +kernel
theorem dX12_copy_60 : decode cX12_copy 60 = .ok (.ifCond .lt 39, 3) := by decide +kernel
theorem dX12_copy_63 : decode cX12_copy 63 = .ok (.iload_n 2, 1) := by decide +kernel
theorem dX12_copy_64 : decode cX12_copy 64 = .ok (.ifCond .lt 35, 3) := by decide +kernel
theorem dX12_copy_67 : decode cX12_copy 67 = .ok (.iload 4, 2) := by decide +kernel
theorem dX12_copy_69 : decode cX12_copy 69 = .ok (.ifCond .lt 30, 3) := by decide +kernel
theorem dX12_copy_72 : decode cX12_copy 72 = .ok (.iload 5, 2) := by decide +kernel
theorem dX12_copy_74 : decode cX12_copy 74 = .ok (.aload_n 0, 1) := by decide +kernel
theorem dX12_copy_75 : decode cX12_copy 75 = .ok (.getfield 179, 3) := by decide +kernel
theorem dX12_copy_78 : decode cX12_copy 78 = .ok (.iload_n 1, 1) := by decide +kernel
theorem dX12_copy_79 : decode cX12_copy 79 = .ok (.iaload, 1) := by decide +kernel
theorem dX12_copy_80 : decode cX12_copy 80 = .ok (.iload_n 2, 1) := by decide +kernel
theorem dX12_copy_81 : decode cX12_copy 81 = .ok (.isub, 1) := by decide +kernel
theorem dX12_copy_82 : decode cX12_copy 82 = .ok (.if_icmp .gt 17, 3) := by decide +kernel
theorem dX12_copy_85 : decode cX12_copy 85 = .ok (.iload 5, 2) := by decide +kernel
theorem dX12_copy_87 : decode cX12_copy 87 = .ok (.aload_n 0, 1) := by decide +kernel
theorem dX12_copy_88 : decode cX12_copy 88 = .ok (.getfield 179, 3) := by decide +kernel
theorem dX12_copy_91 : decode cX12_copy 91 = .ok (.iload_n 3, 1) := by decide +kernel
theorem dX12_copy_92 : decode cX12_copy 92 = .ok (.iaload, 1) := by decide +kernel
theorem dX12_copy_93 : decode cX12_copy 93 = .ok (.iload 4, 2) := by decide +kernel
theorem dX12_copy_95 : decode cX12_copy 95 = .ok (.isub, 1) := by decide +kernel
theorem dX12_copy_96 : decode cX12_copy 96 = .ok (.if_icmp .le 6, 3) := by decide +kernel
theorem dX12_copy_99 : decode cX12_copy 99 = .ok (.bipush (-12), 2) := by decide +kernel
theorem dX12_copy_101 : decode cX12_copy 101 = .ok (.ireturn, 1) := by decide +kernel
theorem dX12_copy_102 : decode cX12_copy 102 = .ok (.iconst 0, 1) := by decide +kernel
theorem dX12_copy_103 : decode cX12_copy 103 = .ok (.istore 6, 2) := by decide +kernel
theorem dX12_copy_105 : decode cX12_copy 105 = .ok (.iload 6, 2) := by decide +kernel
theorem dX12_copy_107 : decode cX12_copy 107 = .ok (.iload 5, 2) := by decide +kernel
theorem dX12_copy_109 : decode cX12_copy 109 = .ok (.if_icmp .ge 30, 3) := by decide +kernel
theorem dX12_copy_112 : decode cX12_copy 112 = .ok (.aload_n 0, 1) := by decide +kernel
theorem dX12_copy_113 : decode cX12_copy 113 = .ok (.getfield 197, 3) := by decide +kernel
theorem dX12_copy_116 : decode cX12_copy 116 = .ok (.iload 6, 2) := by decide +kernel
theorem dX12_copy_118 : decode cX12_copy 118 = .ok (.aload_n 0, 1) := by decide +kernel
theorem dX12_copy_119 : decode cX12_copy 119 = .ok (.getfield 182, 3) := by decide +kernel
theorem dX12_copy_122 : decode cX12_copy 122 = .ok (.bipush 40, 2) := by decide +kernel
theorem dX12_copy_124 : decode cX12_copy 124 = .ok (.iload_n 1, 1) := by decide +kernel
theorem dX12_copy_125 : decode cX12_copy 125 = .ok (.imul, 1) := by decide +kernel
theorem dX12_copy_126 : decode cX12_copy 126 = .ok (.iload_n 2, 1) := by decide +kernel
theorem dX12_copy_127 : decode cX12_copy 127 = .ok (.iadd, 1) := by decide +kernel
theorem dX12_copy_128 : decode cX12_copy 128 = .ok (.iload 6, 2) := by decide +kernel
theorem dX12_copy_130 : decode cX12_copy 130 = .ok (.iadd, 1) := by decide +kernel
theorem dX12_copy_131 : decode cX12_copy 131 = .ok (.iaload, 1) := by decide +kernel
theorem dX12_copy_132 : decode cX12_copy 132 = .ok (.iastore, 1) := by decide +kernel
theorem dX12_copy_133 : decode cX12_copy 133 = .ok (.iinc 6 1, 3) := by decide +kernel
theorem dX12_copy_136 : decode cX12_copy 136 = .ok (.goto (-31), 3) := by decide +kernel
theorem dX12_copy_139 : decode cX12_copy 139 = .ok (.iconst 0, 1) := by decide +kernel
theorem dX12_copy_140 : decode cX12_copy 140 = .ok (.istore 6, 2) := by decide +kernel
theorem dX12_copy_142 : decode cX12_copy 142 = .ok (.iload 6, 2) := by decide +kernel
theorem dX12_copy_144 : decode cX12_copy 144 = .ok (.iload 5, 2) := by decide +kernel
theorem dX12_copy_146 : decode cX12_copy 146 = .ok (.if_icmp .ge 31, 3) := by decide +kernel
theorem dX12_copy_149 : decode cX12_copy 149 = .ok (.aload_n 0, 1) := by decide +kernel
theorem dX12_copy_150 : decode cX12_copy 150 = .ok (.getfield 182, 3) := by decide +kernel
theorem dX12_copy_153 : decode cX12_copy 153 = .ok (.bipush 40, 2) := by decide +kernel
theorem dX12_copy_155 : decode cX12_copy 155 = .ok (.iload_n 3, 1) := by decide +kernel
theorem dX12_copy_156 : decode cX12_copy 156 = .ok (.imul, 1) := by decide +kernel
theorem dX12_copy_157 : decode cX12_copy 157 = .ok (.iload 4, 2) := by decide +kernel
theorem dX12_copy_159 : decode cX12_copy 159 = .ok (.iadd, 1) := by decide +kernel
theorem dX12_copy_160 : decode cX12_copy 160 = .ok (.iload 6, 2) := by decide +kernel
theorem dX12_copy_162 : decode cX12_copy 162 = .ok (.iadd, 1) := by decide +kernel
theorem dX12_copy_163 : decode cX12_copy 163 = .ok (.aload_n 0, 1) := by decide +kernel
theorem dX12_copy_164 : decode cX12_copy 164 = .ok (.getfield 197, 3) := by decide +kernel
theorem dX12_copy_167 : decode cX12_copy 167 = .ok (.iload 6, 2) := by decide +kernel
theorem dX12_copy_169 : decode cX12_copy 169 = .ok (.iaload, 1) := by decide +kernel
theorem dX12_copy_170 : decode cX12_copy 170 = .ok (.iastore, 1) := by decide +kernel
theorem dX12_copy_171 : decode cX12_copy 171 = .ok (.iinc 6 1, 3) := by decide +kernel
theorem dX12_copy_174 : decode cX12_copy 174 = .ok (.goto (-32), 3) := by decide +kernel
theorem dX12_copy_177 : decode cX12_copy 177 = .ok (.iload 5, 2) := by decide +kernel
theorem dX12_copy_179 : decode cX12_copy 179 = .ok (.ireturn, 1) := by decide +kernel
abbrev M_X12_copy : MI := (RX12, cX12_copy, 7, (some .int), ({ frames := 2, cells := 0, slots := 0, locals := 42 } : Room), 0, 0, false)
def f_X12_copy_b142_body (N : Nat) (K142 : AH → Nat → Int32 → Int32 → Int32 → Int32 → Option (Int32 × AH)) (h : AH) (x0 : Nat) (x3 : Int32) (x4 : Int32) (x5 : Int32) (x6 : Int32) : Option (Int32 × AH) := (if x5 ≤ x6 then some (x5, h) else (xgr h x0 13 68).bind fun v31 => (xgr h x0 13 76).bind fun v32 => (xia h v32 x6).bind fun v33 => (xis h v31 (((40 * x3) + x4) + x6) v33).bind fun h34 => K142 h34 x0 x3 x4 x5 (x6 + 1))
def f_X12_copy_b142 (N : Nat) : Nat → AH → Nat → Int32 → Int32 → Int32 → Int32 → Option (Int32 × AH)
  | 0, _, _, _, _, _, _ => none
  | n + 1, h, x0, x3, x4, x5, x6 => f_X12_copy_b142_body N  (f_X12_copy_b142 N  n) h x0 x3 x4 x5 x6
def f_X12_copy_b105_body (N : Nat) (K105 : AH → Nat → Int32 → Int32 → Int32 → Int32 → Int32 → Int32 → Option (Int32 × AH)) (h : AH) (x0 : Nat) (x1 : Int32) (x2 : Int32) (x3 : Int32) (x4 : Int32) (x5 : Int32) (x6 : Int32) : Option (Int32 × AH) := (if x5 ≤ x6 then f_X12_copy_b142 N N h x0 x3 x4 x5 0 else (xgr h x0 13 76).bind fun v26 => (xgr h x0 13 68).bind fun v27 => (xia h v27 (((40 * x1) + x2) + x6)).bind fun v28 => (xis h v26 x6 v28).bind fun h29 => K105 h29 x0 x1 x2 x3 x4 x5 (x6 + 1))
def f_X12_copy_b105 (N : Nat) : Nat → AH → Nat → Int32 → Int32 → Int32 → Int32 → Int32 → Int32 → Option (Int32 × AH)
  | 0, _, _, _, _, _, _, _, _ => none
  | n + 1, h, x0, x1, x2, x3, x4, x5, x6 => f_X12_copy_b105_body N  (f_X12_copy_b105 N  n) h x0 x1 x2 x3 x4 x5 x6
def f_X12_copy (h0 : AH) (N : Nat) (p0 : Nat) (p1 : Int32) (p2 : Int32) (p3 : Int32) (p4 : Int32) (p5 : Int32) : Option (Int32 × AH) := if kd h0 p0 = 13 + 1 then (f_X12_isSheet h0 p1).bind fun v1 => (if v1 = 0 then some ((-2), h0) else (f_X12_isSheet h0 p3).bind fun v3 => (if v3 = 0 then some ((-2), h0) else (xgr h0 p0 13 66).bind fun v5 => (xia h0 v5 p1).bind fun v6 => (if v6 = (-1) then some ((-11), h0) else (xgr h0 p0 13 66).bind fun v8 => (xia h0 v8 p3).bind fun v9 => (if v9 = (-1) then some ((-11), h0) else (xgr h0 p0 13 66).bind fun v11 => (xia h0 v11 p1).bind fun v12 => (xgr h0 p0 13 66).bind fun v13 => (xia h0 v13 p3).bind fun v14 => (if v12 = v14 then (if p5 < 0 then some ((-12), h0) else (if p2 < 0 then some ((-12), h0) else (if p4 < 0 then some ((-12), h0) else (xgr h0 p0 13 67).bind fun v19 => (xia h0 v19 p1).bind fun v20 => (if (v20 - p2) < p5 then some ((-12), h0) else (xgr h0 p0 13 67).bind fun v22 => (xia h0 v22 p3).bind fun v23 => (if p5 ≤ (v23 - p4) then f_X12_copy_b105 N N h0 p0 p1 p2 p3 p4 p5 0 else some ((-12), h0)))))) else some ((-13), h0)))))) else none
theorem g_X12_copy {h0 : AH} {N : Nat} {p0 : Nat} {p1 : Int32} {p2 : Int32} {p3 : Int32} {p4 : Int32} {p5 : Int32} {x : (Int32 × AH)} (e : f_X12_copy h0 N p0 p1 p2 p3 p4 p5 = some x) : kd h0 p0 = 13 + 1 := by
  unfold f_X12_copy at e
  by_cases hk : kd h0 p0 = 13 + 1
  · exact hk
  · rw [if_neg hk] at e
    cases e
theorem km_X12_copy : KM yX12_copy M_X12_copy 5 := ⟨in_tb 1910 (by decide +kernel) rfl, in_tb 9 (by decide +kernel) rfl, by decide +kernel, rfl, rfl⟩
theorem hm_X12_copy : M_X12_copy.2.2.2.2.2.1 = 0 ∧ M_X12_copy.2.2.2.2.2.2.1 = 0 := ⟨rfl, rfl⟩
section
variable {l : Launch} {g : GG}
set_option maxRecDepth 100000 in
set_option maxHeartbeats 4000000 in
theorem t_X12_copy_b142_body (h0 : AH) (N : Nat) (K142 : AH → Nat → Int32 → Int32 → Int32 → Int32 → Option (Int32 × AH)) (hK142 : ∀ (z : AH) (z0 : Nat) (z1 : Int32) (z2 : Int32) (z3 : Int32) (z4 : Int32), AO l g M_X12_copy false h0 142 [(0, .ref z0), (3, .int z1), (4, .int z2), (5, .int z3), (6, .int z4)] [] z 0 0 rSi (K142 z z0 z1 z2 z3 z4)) (h : AH) (x0 : Nat) (x3 : Int32) (x4 : Int32) (x5 : Int32) (x6 : Int32) : AO l g M_X12_copy false h0 142 [(0, .ref x0), (3, .int x3), (4, .int x4), (5, .int x5), (6, .int x6)] [] h 0 0 rSi (f_X12_copy_b142_body N K142 h x0 x3 x4 x5 x6) := by
  unfold f_X12_copy_b142_body
  refine a_iload dX12_copy_142 4 rfl ?_
  refine a_iload dX12_copy_144 3 rfl ?_
  refine a_icmp_ge 177 dX12_copy_146 (by decide) (fun c30 => ?_) (fun c30 => ?_)
  · refine a_iload dX12_copy_177 3 rfl ?_
    exact a_iret dX12_copy_179 rfl rfl (by decide) (by decide)
  · refine a_aload_n dX12_copy_149 rfl 0 rfl ?_
    refine a_getr kc13 68 dX12_copy_150 (by decide) rfl w_fieldLink_RainCoverModel_182 (fun v31 => ?_)
    refine a_bipush (v := 40) dX12_copy_153 (by decide) ?_
    refine a_iload_n dX12_copy_155 rfl 1 rfl ?_
    refine a_imul dX12_copy_156 ?_
    refine a_iload dX12_copy_157 2 rfl ?_
    refine a_iadd dX12_copy_159 ?_
    refine a_iload dX12_copy_160 4 rfl ?_
    refine a_iadd dX12_copy_162 ?_
    refine a_aload_n dX12_copy_163 rfl 0 rfl ?_
    refine a_getr kc13 76 dX12_copy_164 (by decide) rfl w_fieldLink_RainCoverModel_197 (fun v32 => ?_)
    refine a_iload dX12_copy_167 4 rfl ?_
    refine a_iald dX12_copy_169 (fun v33 => ?_)
    refine a_iast dX12_copy_170 (fun h34 => ?_)
    refine a_iinc (q := 4) (v := (x6 + 1)) (lc2 := [(6, .int (x6 + 1)), (0, .ref x0), (3, .int x3), (4, .int x4), (5, .int x5)]) dX12_copy_171 rfl rfl (by decide) rfl ?_
    refine a_goto 142 dX12_copy_174 (by decide) ?_
    refine a_pick (lc2 := [(0, .ref x0), (3, .int x3), (4, .int x4), (5, .int x5), (6, .int (x6 + 1))]) [1, 2, 3, 4, 0] rfl ?_
    exact hK142 h34 x0 x3 x4 x5 (x6 + 1)
set_option maxRecDepth 100000 in
set_option maxHeartbeats 4000000 in
theorem t_X12_copy_b142 (h0 : AH) (N : Nat) : ∀ (n : Nat) (h : AH) (x0 : Nat) (x3 : Int32) (x4 : Int32) (x5 : Int32) (x6 : Int32) , AO l g M_X12_copy false h0 142 [(0, .ref x0), (3, .int x3), (4, .int x4), (5, .int x5), (6, .int x6)] [] h 0 0 rSi (f_X12_copy_b142 N  n h x0 x3 x4 x5 x6) := by
  intro n
  induction n with
  | zero => intro h x0 x3 x4 x5 x6; exact a_eq rfl a_none
  | succ n ih => intro h x0 x3 x4 x5 x6; exact a_eq rfl (t_X12_copy_b142_body h0 N  (f_X12_copy_b142 N  n) ih h x0 x3 x4 x5 x6)
set_option maxRecDepth 100000 in
set_option maxHeartbeats 4000000 in
theorem t_X12_copy_b105_body (h0 : AH) (N : Nat) (K105 : AH → Nat → Int32 → Int32 → Int32 → Int32 → Int32 → Int32 → Option (Int32 × AH)) (hK105 : ∀ (z : AH) (z0 : Nat) (z1 : Int32) (z2 : Int32) (z3 : Int32) (z4 : Int32) (z5 : Int32) (z6 : Int32), AO l g M_X12_copy false h0 105 [(0, .ref z0), (1, .int z1), (2, .int z2), (3, .int z3), (4, .int z4), (5, .int z5), (6, .int z6)] [] z 0 0 rSi (K105 z z0 z1 z2 z3 z4 z5 z6)) (h : AH) (x0 : Nat) (x1 : Int32) (x2 : Int32) (x3 : Int32) (x4 : Int32) (x5 : Int32) (x6 : Int32) : AO l g M_X12_copy false h0 105 [(0, .ref x0), (1, .int x1), (2, .int x2), (3, .int x3), (4, .int x4), (5, .int x5), (6, .int x6)] [] h 0 0 rSi (f_X12_copy_b105_body N K105 h x0 x1 x2 x3 x4 x5 x6) := by
  unfold f_X12_copy_b105_body
  refine a_iload dX12_copy_105 6 rfl ?_
  refine a_iload dX12_copy_107 5 rfl ?_
  refine a_icmp_ge 139 dX12_copy_109 (by decide) (fun c25 => ?_) (fun c25 => ?_)
  · refine a_iconst (v := 0) dX12_copy_139 (by decide) ?_
    refine a_istore (lc2 := [(6, .int 0), (0, .ref x0), (1, .int x1), (2, .int x2), (3, .int x3), (4, .int x4), (5, .int x5)]) dX12_copy_140 (by decide) rfl ?_
    refine a_pick (lc2 := [(0, .ref x0), (3, .int x3), (4, .int x4), (5, .int x5), (6, .int 0)]) [1, 4, 5, 6, 0] rfl ?_
    exact t_X12_copy_b142 h0 N N h x0 x3 x4 x5 0
  · refine a_aload_n dX12_copy_112 rfl 0 rfl ?_
    refine a_getr kc13 76 dX12_copy_113 (by decide) rfl w_fieldLink_RainCoverModel_197 (fun v26 => ?_)
    refine a_iload dX12_copy_116 6 rfl ?_
    refine a_aload_n dX12_copy_118 rfl 0 rfl ?_
    refine a_getr kc13 68 dX12_copy_119 (by decide) rfl w_fieldLink_RainCoverModel_182 (fun v27 => ?_)
    refine a_bipush (v := 40) dX12_copy_122 (by decide) ?_
    refine a_iload_n dX12_copy_124 rfl 1 rfl ?_
    refine a_imul dX12_copy_125 ?_
    refine a_iload_n dX12_copy_126 rfl 2 rfl ?_
    refine a_iadd dX12_copy_127 ?_
    refine a_iload dX12_copy_128 6 rfl ?_
    refine a_iadd dX12_copy_130 ?_
    refine a_iald dX12_copy_131 (fun v28 => ?_)
    refine a_iast dX12_copy_132 (fun h29 => ?_)
    refine a_iinc (q := 6) (v := (x6 + 1)) (lc2 := [(6, .int (x6 + 1)), (0, .ref x0), (1, .int x1), (2, .int x2), (3, .int x3), (4, .int x4), (5, .int x5)]) dX12_copy_133 rfl rfl (by decide) rfl ?_
    refine a_goto 105 dX12_copy_136 (by decide) ?_
    refine a_pick (lc2 := [(0, .ref x0), (1, .int x1), (2, .int x2), (3, .int x3), (4, .int x4), (5, .int x5), (6, .int (x6 + 1))]) [1, 2, 3, 4, 5, 6, 0] rfl ?_
    exact hK105 h29 x0 x1 x2 x3 x4 x5 (x6 + 1)
set_option maxRecDepth 100000 in
set_option maxHeartbeats 4000000 in
theorem t_X12_copy_b105 (h0 : AH) (N : Nat) : ∀ (n : Nat) (h : AH) (x0 : Nat) (x1 : Int32) (x2 : Int32) (x3 : Int32) (x4 : Int32) (x5 : Int32) (x6 : Int32) , AO l g M_X12_copy false h0 105 [(0, .ref x0), (1, .int x1), (2, .int x2), (3, .int x3), (4, .int x4), (5, .int x5), (6, .int x6)] [] h 0 0 rSi (f_X12_copy_b105 N  n h x0 x1 x2 x3 x4 x5 x6) := by
  intro n
  induction n with
  | zero => intro h x0 x1 x2 x3 x4 x5 x6; exact a_eq rfl a_none
  | succ n ih => intro h x0 x1 x2 x3 x4 x5 x6; exact a_eq rfl (t_X12_copy_b105_body h0 N  (f_X12_copy_b105 N  n) ih h x0 x1 x2 x3 x4 x5 x6)
end
set_option maxRecDepth 100000 in
set_option maxHeartbeats 4000000 in
theorem c_X12_copy (l : Launch) (g : GG) (h0 : AH) (N : Nat) (p0 : Nat) (p1 : Int32) (p2 : Int32) (p3 : Int32) (p4 : Int32) (p5 : Int32) : CN l g yX12_copy M_X12_copy false [.ref p0, .int p1, .int p2, .int p3, .int p4, .int p5] h0 rSi (f_X12_copy h0 N p0 p1 p2 p3 p4 p5) := by
  refine CN.of (by decide) rfl (fun hh => by first | rfl | cases hh) (Nat.le_of_ble_eq_true rfl) ?_
  unfold f_X12_copy
  refine a_gd (fun hkd => ?_)
  refine a_iload_n dX12_copy_0 rfl 1 rfl ?_
  refine a_cS_Pi (as := [.int p1]) (st := []) dX12_copy_1 (c_X12_isSheet l g h0 p1) rfl km_X12_isSheet (hm_X12_isSheet) w_methodLink_RainCoverModel_246 w_static_RainCoverModel_isSheet__I_Z ⟨⟨by decide, by decide⟩, ⟨by decide, by decide⟩⟩ (Nat.le_of_ble_eq_true rfl) (fun v1 => ?_)
  refine a_if_eq 14 dX12_copy_4 (by decide) (fun c2 => ?_) (fun c2 => ?_)
  · refine a_bipush (v := (-2)) dX12_copy_14 (by decide) ?_
    exact a_iret dX12_copy_16 rfl rfl (by decide) (by decide)
  · refine a_iload_n dX12_copy_7 rfl 3 rfl ?_
    refine a_cS_Pi (as := [.int p3]) (st := []) dX12_copy_8 (c_X12_isSheet l g h0 p3) rfl km_X12_isSheet (hm_X12_isSheet) w_methodLink_RainCoverModel_246 w_static_RainCoverModel_isSheet__I_Z ⟨⟨by decide, by decide⟩, ⟨by decide, by decide⟩⟩ (Nat.le_of_ble_eq_true rfl) (fun v3 => ?_)
    refine a_if_ne 17 dX12_copy_11 (by decide) (fun c4 => ?_) (fun c4 => ?_)
    · refine a_bipush (v := (-2)) dX12_copy_14 (by decide) ?_
      exact a_iret dX12_copy_16 rfl rfl (by decide) (by decide)
    · refine a_aload_n dX12_copy_17 rfl 0 rfl ?_
      refine a_getr kc13 66 dX12_copy_18 (by decide) rfl w_fieldLink_RainCoverModel_176 (fun v5 => ?_)
      refine a_iload_n dX12_copy_21 rfl 1 rfl ?_
      refine a_iald dX12_copy_22 (fun v6 => ?_)
      refine a_iconst (v := (-1)) dX12_copy_23 (by decide) ?_
      refine a_icmp_eq 37 dX12_copy_24 (by decide) (fun c7 => ?_) (fun c7 => ?_)
      · refine a_bipush (v := (-11)) dX12_copy_37 (by decide) ?_
        exact a_iret dX12_copy_39 rfl rfl (by decide) (by decide)
      · refine a_aload_n dX12_copy_27 rfl 0 rfl ?_
        refine a_getr kc13 66 dX12_copy_28 (by decide) rfl w_fieldLink_RainCoverModel_176 (fun v8 => ?_)
        refine a_iload_n dX12_copy_31 rfl 3 rfl ?_
        refine a_iald dX12_copy_32 (fun v9 => ?_)
        refine a_iconst (v := (-1)) dX12_copy_33 (by decide) ?_
        refine a_icmp_ne 40 dX12_copy_34 (by decide) (fun c10 => ?_) (fun c10 => ?_)
        · refine a_bipush (v := (-11)) dX12_copy_37 (by decide) ?_
          exact a_iret dX12_copy_39 rfl rfl (by decide) (by decide)
        · refine a_aload_n dX12_copy_40 rfl 0 rfl ?_
          refine a_getr kc13 66 dX12_copy_41 (by decide) rfl w_fieldLink_RainCoverModel_176 (fun v11 => ?_)
          refine a_iload_n dX12_copy_44 rfl 1 rfl ?_
          refine a_iald dX12_copy_45 (fun v12 => ?_)
          refine a_aload_n dX12_copy_46 rfl 0 rfl ?_
          refine a_getr kc13 66 dX12_copy_47 (by decide) rfl w_fieldLink_RainCoverModel_176 (fun v13 => ?_)
          refine a_iload_n dX12_copy_50 rfl 3 rfl ?_
          refine a_iald dX12_copy_51 (fun v14 => ?_)
          refine a_icmp_eq 58 dX12_copy_52 (by decide) (fun c15 => ?_) (fun c15 => ?_)
          · refine a_iload dX12_copy_58 5 rfl ?_
            refine a_if_lt 99 dX12_copy_60 (by decide) (fun c16 => ?_) (fun c16 => ?_)
            · refine a_bipush (v := (-12)) dX12_copy_99 (by decide) ?_
              exact a_iret dX12_copy_101 rfl rfl (by decide) (by decide)
            · refine a_iload_n dX12_copy_63 rfl 2 rfl ?_
              refine a_if_lt 99 dX12_copy_64 (by decide) (fun c17 => ?_) (fun c17 => ?_)
              · refine a_bipush (v := (-12)) dX12_copy_99 (by decide) ?_
                exact a_iret dX12_copy_101 rfl rfl (by decide) (by decide)
              · refine a_iload dX12_copy_67 4 rfl ?_
                refine a_if_lt 99 dX12_copy_69 (by decide) (fun c18 => ?_) (fun c18 => ?_)
                · refine a_bipush (v := (-12)) dX12_copy_99 (by decide) ?_
                  exact a_iret dX12_copy_101 rfl rfl (by decide) (by decide)
                · refine a_iload dX12_copy_72 5 rfl ?_
                  refine a_aload_n dX12_copy_74 rfl 0 rfl ?_
                  refine a_getr kc13 67 dX12_copy_75 (by decide) rfl w_fieldLink_RainCoverModel_179 (fun v19 => ?_)
                  refine a_iload_n dX12_copy_78 rfl 1 rfl ?_
                  refine a_iald dX12_copy_79 (fun v20 => ?_)
                  refine a_iload_n dX12_copy_80 rfl 2 rfl ?_
                  refine a_isub dX12_copy_81 ?_
                  refine a_icmp_gt 99 dX12_copy_82 (by decide) (fun c21 => ?_) (fun c21 => ?_)
                  · refine a_bipush (v := (-12)) dX12_copy_99 (by decide) ?_
                    exact a_iret dX12_copy_101 rfl rfl (by decide) (by decide)
                  · refine a_iload dX12_copy_85 5 rfl ?_
                    refine a_aload_n dX12_copy_87 rfl 0 rfl ?_
                    refine a_getr kc13 67 dX12_copy_88 (by decide) rfl w_fieldLink_RainCoverModel_179 (fun v22 => ?_)
                    refine a_iload_n dX12_copy_91 rfl 3 rfl ?_
                    refine a_iald dX12_copy_92 (fun v23 => ?_)
                    refine a_iload dX12_copy_93 4 rfl ?_
                    refine a_isub dX12_copy_95 ?_
                    refine a_icmp_le 102 dX12_copy_96 (by decide) (fun c24 => ?_) (fun c24 => ?_)
                    · refine a_iconst (v := 0) dX12_copy_102 (by decide) ?_
                      refine a_istore (lc2 := [(6, .int 0), (0, .ref p0), (1, .int p1), (2, .int p2), (3, .int p3), (4, .int p4), (5, .int p5)]) dX12_copy_103 (by decide) rfl ?_
                      refine a_pick (lc2 := [(0, .ref p0), (1, .int p1), (2, .int p2), (3, .int p3), (4, .int p4), (5, .int p5), (6, .int 0)]) [1, 2, 3, 4, 5, 6, 0] rfl ?_
                      exact t_X12_copy_b105 h0 N N h0 p0 p1 p2 p3 p4 p5 0
                    · refine a_bipush (v := (-12)) dX12_copy_99 (by decide) ?_
                      exact a_iret dX12_copy_101 rfl rfl (by decide) (by decide)
          · refine a_bipush (v := (-13)) dX12_copy_55 (by decide) ?_
            exact a_iret dX12_copy_57 rfl rfl (by decide) (by decide)
