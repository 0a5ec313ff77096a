theorem dX1_runs_0 : decode cX1_runs 0 = .ok (.aload_n 0, 1) := by decide +kernel
theorem dX1_runs_1 : decode cX1_runs 1 = .ok (.getfield 13, 3) := by decide +kernel
theorem dX1_runs_4 : decode cX1_runs 4 = .ok (.bipush 20, 2) := by decide +kernel
theorem dX1_runs_6 : decode cX1_runs 6 = .ok (.if_icmp .ge 13, 3) := by decide +kernel
theorem dX1_runs_9 : decode cX1_runs 9 = .ok (.aload_n 0, 1) := by decide +kernel
theorem dX1_runs_10 : decode cX1_runs 10 = .ok (.getfield 9, 3) := by decide +kernel
theorem dX1_runs_13 : decode cX1_runs 13 = .ok (.aload_n 0, 1) := by decide +kernel
theorem dX1_runs_14 : decode cX1_runs 14 = .ok (.getfield 13, 3) := by decide +kernel
theorem dX1_runs_17 : decode cX1_runs 17 = .ok (.iload_n 1, 1) := by decide +kernel
theorem dX1_runs_18 : decode cX1_runs 18 = .ok (.iastore, 1) := by decide +kernel
theorem dX1_runs_19 : decode cX1_runs 19 = .ok (.aload_n 0, 1) := by decide +kernel
theorem dX1_runs_20 : decode cX1_runs 20 = .ok (.dup, 1) := by decide +kernel
theorem dX1_runs_21 : decode cX1_runs 21 = .ok (.getfield 13, 3) := by decide +kernel
theorem dX1_runs_24 : decode cX1_runs 24 = .ok (.iconst 1, 1) := by decide +kernel
theorem dX1_runs_25 : decode cX1_runs 25 = .ok (.iadd, 1) := by decide +kernel
theorem dX1_runs_26 : decode cX1_runs 26 = .ok (.putfield 13, 3) := by decide +kernel
theorem dX1_runs_29 : decode cX1_runs 29 = .ok (.return_, 1) := by decide +kernel
abbrev M_X1_runs : MI := (RX1, cX1_runs, 2, none, ({ frames := 0, cells := 0, slots := 0, locals := 0 } : Room), 0, 0, false)
def f_X1_runs_b19 (h : AH) (x0 : Nat) : Option AH := (xgc h x0 3).bind fun v6 => (xpc h x0 3 (v6 + 1)).bind fun h7 => some h7
def f_X1_runs (h0 : AH) (p0 : Nat) (p1 : Int32) : Option AH := if kd h0 p0 = 2 ∨ kd h0 p0 = 3 ∨ kd h0 p0 = 6 ∨ kd h0 p0 = 7 then (xgc h0 p0 3).bind fun v1 => (if 20 ≤ v1 then f_X1_runs_b19 h0 p0 else (xgcr h0 p0 2).bind fun v3 => (xgc h0 p0 3).bind fun v4 => (xis h0 v3 v4 p1).bind fun h5 => f_X1_runs_b19 h5 p0) else none
theorem g_X1_runs {h0 : AH} {p0 : Nat} {p1 : Int32} {x : AH} (e : f_X1_runs h0 p0 p1 = some x) : kd h0 p0 = 2 ∨ kd h0 p0 = 3 ∨ kd h0 p0 = 6 ∨ kd h0 p0 = 7 := by
  unfold f_X1_runs at e
  by_cases hk : kd h0 p0 = 2 ∨ kd h0 p0 = 3 ∨ kd h0 p0 = 6 ∨ kd h0 p0 = 7
  · exact hk
  · rw [if_neg hk] at e
    cases e
theorem km_X1_runs : KM yX1_runs M_X1_runs 1 := ⟨in_tb 1103 (by decide +kernel) rfl, in_tb 22 (by decide +kernel) rfl, by decide +kernel, rfl, rfl⟩
theorem hm_X1_runs : M_X1_runs.2.2.2.2.2.1 = 0 ∧ M_X1_runs.2.2.2.2.2.2.1 = 0 := ⟨rfl, rfl⟩
section
variable {l : Launch} {g : GG}
set_option maxRecDepth 100000 in
set_option maxHeartbeats 4000000 in
theorem t_X1_runs_b19 (h0 : AH) (h : AH) (x0 : Nat) : AO l g M_X1_runs false h0 19 [(0, .ref x0)] [] h 0 0 rSv (f_X1_runs_b19  h x0) := by
  unfold f_X1_runs_b19
  refine a_aload_n dX1_runs_19 rfl 0 rfl ?_
  refine a_dup dX1_runs_20 rfl ?_
  refine a_gc3 dX1_runs_21 w_fieldLink_RainCover_Crop_13 (fun v6 => ?_)
  refine a_iconst (v := 1) dX1_runs_24 (by decide) ?_
  refine a_iadd dX1_runs_25 ?_
  refine a_pc3 dX1_runs_26 w_fieldLink_RainCover_Crop_13 (fun h7 => ?_)
  exact a_vret dX1_runs_29 rfl rfl (by decide) (by decide)
end
set_option maxRecDepth 100000 in
set_option maxHeartbeats 4000000 in
theorem c_X1_runs (l : Launch) (g : GG) (h0 : AH) (p0 : Nat) (p1 : Int32) : CN l g yX1_runs M_X1_runs false [.ref p0, .int p1] h0 rSv (f_X1_runs h0 p0 p1) := by
  refine CN.of (by decide) rfl (fun hh => by first | rfl | cases hh) (Nat.le_of_ble_eq_true rfl) ?_
  unfold f_X1_runs
  refine a_gd (fun hkd => ?_)
  refine a_aload_n dX1_runs_0 rfl 0 rfl ?_
  refine a_gc3 dX1_runs_1 w_fieldLink_RainCover_Crop_13 (fun v1 => ?_)
  refine a_bipush (v := 20) dX1_runs_4 (by decide) ?_
  refine a_icmp_ge 19 dX1_runs_6 (by decide) (fun c2 => ?_) (fun c2 => ?_)
  · refine a_pick (lc2 := [(0, .ref p0)]) [0] rfl ?_
    exact t_X1_runs_b19 h0 h0 p0
  · refine a_aload_n dX1_runs_9 rfl 0 rfl ?_
    refine a_gc2 dX1_runs_10 w_fieldLink_RainCover_Crop_9 (fun v3 => ?_)
    refine a_aload_n dX1_runs_13 rfl 0 rfl ?_
    refine a_gc3 dX1_runs_14 w_fieldLink_RainCover_Crop_13 (fun v4 => ?_)
    refine a_iload_n dX1_runs_17 rfl 1 rfl ?_
    refine a_iast dX1_runs_18 (fun h5 => ?_)
    refine a_pick (lc2 := [(0, .ref p0)]) [0] rfl ?_
    exact t_X1_runs_b19 h0 h5 p0
theorem dX1_drinks_0 : decode cX1_drinks 0 = .ok (.aload_n 0, 1) := by decide +kernel
theorem dX1_drinks_1 : decode cX1_drinks 1 = .ok (.bipush 10, 2) := by decide +kernel
theorem dX1_drinks_3 : decode cX1_drinks 3 = .ok (.invokevirtual 23, 3) := by decide +kernel
theorem dX1_drinks_6 : decode cX1_drinks 6 = .ok (.iload_n 1, 1) := by decide +kernel
theorem dX1_drinks_7 : decode cX1_drinks 7 = .ok (.aload_n 0, 1) := by decide +kernel
theorem dX1_drinks_8 : decode cX1_drinks 8 = .ok (.getfield 20, 3) := by decide +kernel
theorem dX1_drinks_11 : decode cX1_drinks 11 = .ok (.iadd, 1) := by decide +kernel
theorem dX1_drinks_12 : decode cX1_drinks 12 = .ok (.ireturn, 1) := by decide +kernel
abbrev M_X1_drinks : MI := (RX1, cX1_drinks, 2, (some .int), ({ frames := 1, cells := 0, slots := 0, locals := 21 } : Room), 0, 0, false)
def f_X1_drinks (h0 : AH) (p0 : Nat) (p1 : Int32) : Option (Int32 × AH) := if kd h0 p0 = 2 ∨ kd h0 p0 = 3 ∨ kd h0 p0 = 6 ∨ kd h0 p0 = 7 then (if kd h0 p0 = 2 then f_X1_runs h0 p0 10 else if kd h0 p0 = 3 then f_X1_runs h0 p0 10 else if kd h0 p0 = 6 then f_X1_runs h0 p0 10 else if kd h0 p0 = 7 then f_X1_runs h0 p0 10 else none).bind fun q1 => (xgc q1 p0 1).bind fun v2 => some ((p1 + v2), q1) else none
theorem g_X1_drinks {h0 : AH} {p0 : Nat} {p1 : Int32} {x : (Int32 × AH)} (e : f_X1_drinks h0 p0 p1 = some x) : kd h0 p0 = 2 ∨ kd h0 p0 = 3 ∨ kd h0 p0 = 6 ∨ kd h0 p0 = 7 := by
  unfold f_X1_drinks at e
  by_cases hk : kd h0 p0 = 2 ∨ kd h0 p0 = 3 ∨ kd h0 p0 = 6 ∨ kd h0 p0 = 7
  · exact hk
  · rw [if_neg hk] at e
    cases e
theorem km_X1_drinks : KM yX1_drinks M_X1_drinks 1 := ⟨in_tb 1114 (by decide +kernel) rfl, in_tb 22 (by decide +kernel) rfl, by decide +kernel, rfl, rfl⟩
theorem hm_X1_drinks : M_X1_drinks.2.2.2.2.2.1 = 0 ∧ M_X1_drinks.2.2.2.2.2.2.1 = 0 := ⟨rfl, rfl⟩
section
variable {l : Launch} {g : GG}
end
set_option maxRecDepth 100000 in
set_option maxHeartbeats 4000000 in
theorem c_X1_drinks (l : Launch) (g : GG) (h0 : AH) (p0 : Nat) (p1 : Int32) : CN l g yX1_drinks M_X1_drinks false [.ref p0, .int p1] h0 rSi (f_X1_drinks h0 p0 p1) := by
  refine CN.of (by decide) rfl (fun hh => by first | rfl | cases hh) (Nat.le_of_ble_eq_true rfl) ?_
  unfold f_X1_drinks
  refine a_gd (fun hkd => ?_)
  refine a_aload_n dX1_drinks_0 rfl 0 rfl ?_
  refine a_bipush (v := 10) dX1_drinks_1 (by decide) ?_
  have J3 : ∀ (q1 : AH), AO l g M_X1_drinks false h0 6 [(0, .ref p0), (1, .int p1)] [] q1 0 0 rSi ((xgc q1 p0 1).bind fun v2 => some ((p1 + v2), q1)) := by
    intro q1
    refine a_iload_n dX1_drinks_6 rfl 1 rfl ?_
    refine a_aload_n dX1_drinks_7 rfl 0 rfl ?_
    refine a_gc1 dX1_drinks_8 w_fieldLink_RainCover_Crop_20 (fun v2 => ?_)
    refine a_iadd dX1_drinks_11 ?_
    exact a_iret dX1_drinks_12 rfl rfl (by decide) (by decide)
  refine a_br (fun e4 => ?_) (fun e4 => ?_)
  · exact a_cU_Sv (r := p0) (ci := 1) (as := [.int 10]) (st := []) dX1_drinks_3 (c_X1_runs l g h0 p0 10) rfl km_X1_runs (hm_X1_runs) ⟨"RainCover$Crop", "runs", "(I)V"⟩ "RainCover$Crop" rfl (by decide) (fun _ _ => e4) w_methodLink_RainCover_Crop_23 w_sameMethod_RainCover_Crop_RainCover_Crop_runs__I_V w_instanceMethod_RainCover_Crop_runs__I_V w_selects_RainCover_Bean_RainCover_Crop_runs__I_V_RainCover_Crop_runs__I_V (Or.inl rfl) ⟨by decide, by decide, show _ = some 1 from by decide +kernel⟩ ⟨⟨by decide, by decide⟩, ⟨by decide, by decide⟩⟩ (Nat.le_of_ble_eq_true rfl) J3
  · refine a_br (fun e5 => ?_) (fun e5 => ?_)
    · exact a_cV_Sv (r := p0) (ci := 2) (as := [.int 10]) (st := []) dX1_drinks_3 (c_X1_runs l g h0 p0 10) rfl km_X1_runs (hm_X1_runs) rfl (by decide) rfl (fun _ _ => e5) w_methodLink_RainCover_Crop_23 w_instanceMethod_RainCover_Crop_runs__I_V w_selects_RainCover_Crop_RainCover_Crop_runs__I_V_RainCover_Crop_runs__I_V ⟨⟨by decide, by decide⟩, ⟨by decide, by decide⟩⟩ (Nat.le_of_ble_eq_true rfl) J3
    · refine a_br (fun e6 => ?_) (fun e6 => ?_)
      · exact a_cU_Sv (r := p0) (ci := 5) (as := [.int 10]) (st := []) dX1_drinks_3 (c_X1_runs l g h0 p0 10) rfl km_X1_runs (hm_X1_runs) ⟨"RainCover$Crop", "runs", "(I)V"⟩ "RainCover$Crop" rfl (by decide) (fun _ _ => e6) w_methodLink_RainCover_Crop_23 w_sameMethod_RainCover_Crop_RainCover_Crop_runs__I_V w_instanceMethod_RainCover_Crop_runs__I_V w_selects_RainCover_Grain_RainCover_Crop_runs__I_V_RainCover_Crop_runs__I_V (Or.inl rfl) ⟨by decide, by decide, show _ = some 1 from by decide +kernel⟩ ⟨⟨by decide, by decide⟩, ⟨by decide, by decide⟩⟩ (Nat.le_of_ble_eq_true rfl) J3
      · refine a_br (fun e7 => ?_) (fun e7 => ?_)
        · exact a_cU_Sv (r := p0) (ci := 6) (as := [.int 10]) (st := []) dX1_drinks_3 (c_X1_runs l g h0 p0 10) rfl km_X1_runs (hm_X1_runs) ⟨"RainCover$Crop", "runs", "(I)V"⟩ "RainCover$Crop" rfl (by decide) (fun _ _ => e7) w_methodLink_RainCover_Crop_23 w_sameMethod_RainCover_Crop_RainCover_Crop_runs__I_V w_instanceMethod_RainCover_Crop_runs__I_V w_selects_RainCover_Maize_RainCover_Crop_runs__I_V_RainCover_Crop_runs__I_V (Or.inl rfl) ⟨by decide, by decide, show _ = some 1 from by decide +kernel⟩ ⟨⟨by decide, by decide⟩, ⟨by decide, by decide⟩⟩ (Nat.le_of_ble_eq_true rfl) J3
        · exact a_nb
theorem dX0_drinks_0 : decode cX0_drinks 0 = .ok (.aload_n 0, 1) := by decide +kernel
theorem dX0_drinks_1 : decode cX0_drinks 1 = .ok (.bipush 41, 2) := by decide +kernel
theorem dX0_drinks_3 : decode cX0_drinks 3 = .ok (.invokevirtual 7, 3) := by decide +kernel
theorem dX0_drinks_6 : decode cX0_drinks 6 = .ok (.aload_n 0, 1) := by decide +kernel
theorem dX0_drinks_7 : decode cX0_drinks 7 = .ok (.iload_n 1, 1) := by decide +kernel
theorem dX0_drinks_8 : decode cX0_drinks 8 = .ok (.invokespecial 17, 3) := by decide +kernel
theorem dX0_drinks_11 : decode cX0_drinks 11 = .ok (.iconst 5, 1) := by decide +kernel
theorem dX0_drinks_12 : decode cX0_drinks 12 = .ok (.ixor, 1) := by decide +kernel
theorem dX0_drinks_13 : decode cX0_drinks 13 = .ok (.ireturn, 1) := by decide +kernel
abbrev M_X0_drinks : MI := (RX0, cX0_drinks, 2, (some .int), ({ frames := 2, cells := 0, slots := 0, locals := 42 } : Room), 0, 0, false)
def f_X0_drinks (h0 : AH) (p0 : Nat) (p1 : Int32) : Option (Int32 × AH) := if kd h0 p0 = 1 + 1 then (if kd h0 p0 = 2 then f_X1_runs h0 p0 41 else none).bind fun q1 => (if kd q1 p0 = 2 then f_X1_drinks q1 p0 p1 else none).bind fun q2 => some ((q2.1 ^^^ 5), q2.2) else none
theorem g_X0_drinks {h0 : AH} {p0 : Nat} {p1 : Int32} {x : (Int32 × AH)} (e : f_X0_drinks h0 p0 p1 = some x) : kd h0 p0 = 1 + 1 := by
  unfold f_X0_drinks at e
  by_cases hk : kd h0 p0 = 1 + 1
  · exact hk
  · rw [if_neg hk] at e
    cases e
theorem km_X0_drinks : KM yX0_drinks M_X0_drinks 1 := ⟨in_tb 1097 (by decide +kernel) rfl, in_tb 25 (by decide +kernel) rfl, by decide +kernel, rfl, rfl⟩
theorem hm_X0_drinks : M_X0_drinks.2.2.2.2.2.1 = 0 ∧ M_X0_drinks.2.2.2.2.2.2.1 = 0 := ⟨rfl, rfl⟩
section
variable {l : Launch} {g : GG}
end
set_option maxRecDepth 100000 in
set_option maxHeartbeats 4000000 in
theorem c_X0_drinks (l : Launch) (g : GG) (h0 : AH) (p0 : Nat) (p1 : Int32) : CN l g yX0_drinks M_X0_drinks false [.ref p0, .int p1] h0 rSi (f_X0_drinks h0 p0 p1) := by
  refine CN.of (by decide) rfl (fun hh => by first | rfl | cases hh) (Nat.le_of_ble_eq_true rfl) ?_
  unfold f_X0_drinks
  refine a_gd (fun hkd => ?_)
  refine a_aload_n dX0_drinks_0 rfl 0 rfl ?_
  refine a_bipush (v := 41) dX0_drinks_1 (by decide) ?_
  have J5 : ∀ (q1 : AH), AO l g M_X0_drinks false h0 6 [(0, .ref p0), (1, .int p1)] [] q1 0 0 rSi ((if kd q1 p0 = 2 then f_X1_drinks q1 p0 p1 else none).bind fun q2 => some ((q2.1 ^^^ 5), q2.2)) := by
    intro q1
    refine a_aload_n dX0_drinks_6 rfl 0 rfl ?_
    refine a_iload_n dX0_drinks_7 rfl 1 rfl ?_
    have J3 : ∀ (q2 : Int32 × AH), AO l g M_X0_drinks false h0 11 [(0, .ref p0), (1, .int p1)] [.int q2.1] q2.2 0 0 rSi (some ((q2.1 ^^^ 5), q2.2)) := by
      intro q2
      refine a_iconst (v := 5) dX0_drinks_11 (by decide) ?_
      refine a_ixor dX0_drinks_12 ?_
      exact a_iret dX0_drinks_13 rfl rfl (by decide) (by decide)
    refine a_br (fun e4 => ?_) (fun e4 => ?_)
    · exact a_cX_Si (r := p0) (ci := 1) (as := [.int p1]) (st := []) dX0_drinks_8 (c_X1_drinks l g q1 p0 p1) rfl km_X1_drinks (hm_X1_drinks) ⟨"RainCover$Crop", "drinks", "(I)I"⟩ "RainCover$Crop" rfl (by decide) (fun _ _ => e4) w_methodLink_RainCover_Bean_17 w_sameMethod_RainCover_Crop_RainCover_Crop_drinks__I_I w_superclass_RainCover_Bean_RainCover_Crop (Or.inl rfl) rfl w_instanceMethod_RainCover_Crop_drinks__I_I (by decide) ⟨⟨by decide, by decide⟩, ⟨by decide, by decide⟩⟩ (Nat.le_of_ble_eq_true rfl) J3
    · exact a_nb
  refine a_br (fun e6 => ?_) (fun e6 => ?_)
  · exact a_cU_Sv (r := p0) (ci := 1) (as := [.int 41]) (st := []) dX0_drinks_3 (c_X1_runs l g h0 p0 41) rfl km_X1_runs (hm_X1_runs) ⟨"RainCover$Bean", "runs", "(I)V"⟩ "RainCover$Crop" rfl (by decide) (fun _ _ => e6) w_methodLink_RainCover_Bean_7 w_sameMethod_RainCover_Bean_RainCover_Crop_runs__I_V w_instanceMethod_RainCover_Crop_runs__I_V w_selects_RainCover_Bean_RainCover_Bean_runs__I_V_RainCover_Crop_runs__I_V (Or.inl rfl) ⟨by decide, by decide, show _ = some 1 from by decide +kernel⟩ ⟨⟨by decide, by decide⟩, ⟨by decide, by decide⟩⟩ (Nat.le_of_ble_eq_true rfl) J5
  · exact a_nb
theorem dX4_drinks_0 : decode cX4_drinks 0 = .ok (.aload_n 0, 1) := by decide +kernel
theorem dX4_drinks_1 : decode cX4_drinks 1 = .ok (.bipush 20, 2) := by decide +kernel
theorem dX4_drinks_3 : decode cX4_drinks 3 = .ok (.invokevirtual 7, 3) := by decide +kernel
theorem dX4_drinks_6 : decode cX4_drinks 6 = .ok (.aload_n 0, 1) := by decide +kernel
theorem dX4_drinks_7 : decode cX4_drinks 7 = .ok (.iload_n 1, 1) := by decide +kernel
theorem dX4_drinks_8 : decode cX4_drinks 8 = .ok (.invokespecial 13, 3) := by decide +kernel
theorem dX4_drinks_11 : decode cX4_drinks 11 = .ok (.aload_n 0, 1) := by decide +kernel
theorem dX4_drinks_12 : decode cX4_drinks 12 = .ok (.getfield 17, 3) := by decide +kernel
theorem dX4_drinks_15 : decode cX4_drinks 15 = .ok (.isub, 1) := by decide +kernel
theorem dX4_drinks_16 : decode cX4_drinks 16 = .ok (.ireturn, 1) := by decide +kernel
abbrev M_X4_drinks : MI := (RX4, cX4_drinks, 2, (some .int), ({ frames := 2, cells := 0, slots := 0, locals := 42 } : Room), 0, 0, false)
def f_X4_drinks (h0 : AH) (p0 : Nat) (p1 : Int32) : Option (Int32 × AH) := if kd h0 p0 = 6 ∨ kd h0 p0 = 7 then (if kd h0 p0 = 6 then f_X1_runs h0 p0 20 else if kd h0 p0 = 7 then f_X1_runs h0 p0 20 else none).bind fun q1 => (if kd q1 p0 = 6 then f_X1_drinks q1 p0 p1 else if kd q1 p0 = 7 then f_X1_drinks q1 p0 p1 else none).bind fun q2 => (xgc q2.2 p0 0).bind fun v3 => some ((q2.1 - v3), q2.2) else none
theorem g_X4_drinks {h0 : AH} {p0 : Nat} {p1 : Int32} {x : (Int32 × AH)} (e : f_X4_drinks h0 p0 p1 = some x) : kd h0 p0 = 6 ∨ kd h0 p0 = 7 := by
  unfold f_X4_drinks at e
  by_cases hk : kd h0 p0 = 6 ∨ kd h0 p0 = 7
  · exact hk
  · rw [if_neg hk] at e
    cases e
theorem km_X4_drinks : KM yX4_drinks M_X4_drinks 1 := ⟨in_tb 1107 (by decide +kernel) rfl, in_tb 23 (by decide +kernel) rfl, by decide +kernel, rfl, rfl⟩
theorem hm_X4_drinks : M_X4_drinks.2.2.2.2.2.1 = 0 ∧ M_X4_drinks.2.2.2.2.2.2.1 = 0 := ⟨rfl, rfl⟩
section
variable {l : Launch} {g : GG}
end
set_option maxRecDepth 100000 in
set_option maxHeartbeats 4000000 in
theorem c_X4_drinks (l : Launch) (g : GG) (h0 : AH) (p0 : Nat) (p1 : Int32) : CN l g yX4_drinks M_X4_drinks false [.ref p0, .int p1] h0 rSi (f_X4_drinks h0 p0 p1) := by
  refine CN.of (by decide) rfl (fun hh => by first | rfl | cases hh) (Nat.le_of_ble_eq_true rfl) ?_
  unfold f_X4_drinks
  refine a_gd (fun hkd => ?_)
  refine a_aload_n dX4_drinks_0 rfl 0 rfl ?_
  refine a_bipush (v := 20) dX4_drinks_1 (by decide) ?_
  have J7 : ∀ (q1 : AH), AO l g M_X4_drinks false h0 6 [(0, .ref p0), (1, .int p1)] [] q1 0 0 rSi ((if kd q1 p0 = 6 then f_X1_drinks q1 p0 p1 else if kd q1 p0 = 7 then f_X1_drinks q1 p0 p1 else none).bind fun q2 => (xgc q2.2 p0 0).bind fun v3 => some ((q2.1 - v3), q2.2)) := by
    intro q1
    refine a_aload_n dX4_drinks_6 rfl 0 rfl ?_
    refine a_iload_n dX4_drinks_7 rfl 1 rfl ?_
    have J4 : ∀ (q2 : Int32 × AH), AO l g M_X4_drinks false h0 11 [(0, .ref p0), (1, .int p1)] [.int q2.1] q2.2 0 0 rSi ((xgc q2.2 p0 0).bind fun v3 => some ((q2.1 - v3), q2.2)) := by
      intro q2
      refine a_aload_n dX4_drinks_11 rfl 0 rfl ?_
      refine a_gc0S dX4_drinks_12 w_fieldLink_RainCover_Grain_17 w_sameField_RainCover_Grain_RainCover_Crop_number_I (fun v3 => ?_)
      refine a_isub dX4_drinks_15 ?_
      exact a_iret dX4_drinks_16 rfl rfl (by decide) (by decide)
    refine a_br (fun e5 => ?_) (fun e5 => ?_)
    · exact a_cX_Si (r := p0) (ci := 5) (as := [.int p1]) (st := []) dX4_drinks_8 (c_X1_drinks l g q1 p0 p1) rfl km_X1_drinks (hm_X1_drinks) ⟨"RainCover$Crop", "drinks", "(I)I"⟩ "RainCover$Crop" rfl (by decide) (fun _ _ => e5) w_methodLink_RainCover_Grain_13 w_sameMethod_RainCover_Crop_RainCover_Crop_drinks__I_I w_superclass_RainCover_Grain_RainCover_Crop (Or.inl rfl) rfl w_instanceMethod_RainCover_Crop_drinks__I_I (by decide) ⟨⟨by decide, by decide⟩, ⟨by decide, by decide⟩⟩ (Nat.le_of_ble_eq_true rfl) J4
    · refine a_br (fun e6 => ?_) (fun e6 => ?_)
      · exact a_cX_Si (r := p0) (ci := 6) (as := [.int p1]) (st := []) dX4_drinks_8 (c_X1_drinks l g q1 p0 p1) rfl km_X1_drinks (hm_X1_drinks) ⟨"RainCover$Crop", "drinks", "(I)I"⟩ "RainCover$Crop" rfl (by decide) (fun _ _ => e6) w_methodLink_RainCover_Grain_13 w_sameMethod_RainCover_Crop_RainCover_Crop_drinks__I_I w_superclass_RainCover_Grain_RainCover_Crop (Or.inl rfl) rfl w_instanceMethod_RainCover_Crop_drinks__I_I (by decide) ⟨⟨by decide, by decide⟩, ⟨by decide, by decide⟩⟩ (Nat.le_of_ble_eq_true rfl) J4
      · exact a_nb
  refine a_br (fun e8 => ?_) (fun e8 => ?_)
  · exact a_cU_Sv (r := p0) (ci := 5) (as := [.int 20]) (st := []) dX4_drinks_3 (c_X1_runs l g h0 p0 20) rfl km_X1_runs (hm_X1_runs) ⟨"RainCover$Grain", "runs", "(I)V"⟩ "RainCover$Crop" rfl (by decide) (fun _ _ => e8) w_methodLink_RainCover_Grain_7 w_sameMethod_RainCover_Grain_RainCover_Crop_runs__I_V w_instanceMethod_RainCover_Crop_runs__I_V w_selects_RainCover_Grain_RainCover_Grain_runs__I_V_RainCover_Crop_runs__I_V (Or.inl rfl) ⟨by decide, by decide, show _ = some 1 from by decide +kernel⟩ ⟨⟨by decide, by decide⟩, ⟨by decide, by decide⟩⟩ (Nat.le_of_ble_eq_true rfl) J7
  · refine a_br (fun e9 => ?_) (fun e9 => ?_)
    · exact a_cU_Sv (r := p0) (ci := 6) (as := [.int 20]) (st := []) dX4_drinks_3 (c_X1_runs l g h0 p0 20) rfl km_X1_runs (hm_X1_runs) ⟨"RainCover$Grain", "runs", "(I)V"⟩ "RainCover$Crop" rfl (by decide) (fun _ _ => e9) w_methodLink_RainCover_Grain_7 w_sameMethod_RainCover_Grain_RainCover_Crop_runs__I_V w_instanceMethod_RainCover_Crop_runs__I_V w_selects_RainCover_Maize_RainCover_Grain_runs__I_V_RainCover_Crop_runs__I_V (Or.inl rfl) ⟨by decide, by decide, show _ = some 1 from by decide +kernel⟩ ⟨⟨by decide, by decide⟩, ⟨by decide, by decide⟩⟩ (Nat.le_of_ble_eq_true rfl) J7
    · exact a_nb
theorem dX1_wilts_0 : decode cX1_wilts 0 = .ok (.aload_n 0, 1) := by decide +kernel
theorem dX1_wilts_1 : decode cX1_wilts 1 = .ok (.bipush 11, 2) := by decide +kernel
theorem dX1_wilts_3 : decode cX1_wilts 3 = .ok (.invokevirtual 23, 3) := by decide +kernel
theorem dX1_wilts_6 : decode cX1_wilts 6 = .ok (.aload_n 0, 1) := by decide +kernel
theorem dX1_wilts_7 : decode cX1_wilts 7 = .ok (.iload_n 1, 1) := by decide +kernel
theorem dX1_wilts_8 : decode cX1_wilts 8 = .ok (.invokevirtual 27, 3) := by decide +kernel
theorem dX1_wilts_11 : decode cX1_wilts 11 = .ok (.iconst 3, 1) := by decide +kernel
theorem dX1_wilts_12 : decode cX1_wilts 12 = .ok (.imul, 1) := by decide +kernel
theorem dX1_wilts_13 : decode cX1_wilts 13 = .ok (.ireturn, 1) := by decide +kernel
abbrev M_X1_wilts : MI := (RX1, cX1_wilts, 2, (some .int), ({ frames := 3, cells := 0, slots := 0, locals := 63 } : Room), 0, 0, false)
def f_X1_wilts (h0 : AH) (p0 : Nat) (p1 : Int32) : Option (Int32 × AH) := if kd h0 p0 = 2 ∨ kd h0 p0 = 3 ∨ kd h0 p0 = 6 ∨ kd h0 p0 = 7 then (if kd h0 p0 = 2 then f_X1_runs h0 p0 11 else if kd h0 p0 = 3 then f_X1_runs h0 p0 11 else if kd h0 p0 = 6 then f_X1_runs h0 p0 11 else if kd h0 p0 = 7 then f_X1_runs h0 p0 11 else none).bind fun q1 => (if kd q1 p0 = 2 then f_X0_drinks q1 p0 p1 else if kd q1 p0 = 3 then f_X1_drinks q1 p0 p1 else if kd q1 p0 = 6 then f_X4_drinks q1 p0 p1 else if kd q1 p0 = 7 then f_X4_drinks q1 p0 p1 else none).bind fun q2 => some ((q2.1 * 3), q2.2) else none
theorem g_X1_wilts {h0 : AH} {p0 : Nat} {p1 : Int32} {x : (Int32 × AH)} (e : f_X1_wilts h0 p0 p1 = some x) : kd h0 p0 = 2 ∨ kd h0 p0 = 3 ∨ kd h0 p0 = 6 ∨ kd h0 p0 = 7 := by
  unfold f_X1_wilts at e
  by_cases hk : kd h0 p0 = 2 ∨ kd h0 p0 = 3 ∨ kd h0 p0 = 6 ∨ kd h0 p0 = 7
  · exact hk
  · rw [if_neg hk] at e
    cases e
theorem km_X1_wilts : KM yX1_wilts M_X1_wilts 1 := ⟨in_tb 1134 (by decide +kernel) rfl, in_tb 22 (by decide +kernel) rfl, by decide +kernel, rfl, rfl⟩
theorem hm_X1_wilts : M_X1_wilts.2.2.2.2.2.1 = 0 ∧ M_X1_wilts.2.2.2.2.2.2.1 = 0 := ⟨rfl, rfl⟩
section
variable {l : Launch} {g : GG}
end
set_option maxRecDepth 100000 in
set_option maxHeartbeats 4000000 in
theorem c_X1_wilts (l : Launch) (g : GG) (h0 : AH) (p0 : Nat) (p1 : Int32) : CN l g yX1_wilts M_X1_wilts false [.ref p0, .int p1] h0 rSi (f_X1_wilts h0 p0 p1) := by
  refine CN.of (by decide) rfl (fun hh => by first | rfl | cases hh) (Nat.le_of_ble_eq_true rfl) ?_
  unfold f_X1_wilts
  refine a_gd (fun hkd => ?_)
  refine a_aload_n dX1_wilts_0 rfl 0 rfl ?_
  refine a_bipush (v := 11) dX1_wilts_1 (by decide) ?_
  have J8 : ∀ (q1 : AH), AO l g M_X1_wilts false h0 6 [(0, .ref p0), (1, .int p1)] [] q1 0 0 rSi ((if kd q1 p0 = 2 then f_X0_drinks q1 p0 p1 else if kd q1 p0 = 3 then f_X1_drinks q1 p0 p1 else if kd q1 p0 = 6 then f_X4_drinks q1 p0 p1 else if kd q1 p0 = 7 then f_X4_drinks q1 p0 p1 else none).bind fun q2 => some ((q2.1 * 3), q2.2)) := by
    intro q1
    refine a_aload_n dX1_wilts_6 rfl 0 rfl ?_
    refine a_iload_n dX1_wilts_7 rfl 1 rfl ?_
    have J3 : ∀ (q2 : Int32 × AH), AO l g M_X1_wilts false h0 11 [(0, .ref p0), (1, .int p1)] [.int q2.1] q2.2 0 0 rSi (some ((q2.1 * 3), q2.2)) := by
      intro q2
      refine a_iconst (v := 3) dX1_wilts_11 (by decide) ?_
      refine a_imul dX1_wilts_12 ?_
      exact a_iret dX1_wilts_13 rfl rfl (by decide) (by decide)
    refine a_br (fun e4 => ?_) (fun e4 => ?_)
    · exact a_cU_Si (r := p0) (ci := 1) (as := [.int p1]) (st := []) dX1_wilts_8 (c_X0_drinks l g q1 p0 p1) rfl km_X0_drinks (hm_X0_drinks) ⟨"RainCover$Crop", "drinks", "(I)I"⟩ "RainCover$Crop" rfl (by decide) (fun _ _ => e4) w_methodLink_RainCover_Crop_27 w_sameMethod_RainCover_Crop_RainCover_Crop_drinks__I_I w_instanceMethod_RainCover_Bean_drinks__I_I w_selects_RainCover_Bean_RainCover_Crop_drinks__I_I_RainCover_Bean_drinks__I_I (Or.inr ⟨w_instanceMethod_RainCover_Crop_drinks__I_I, _, _, _, w_code_RainCover_Crop_drinks__I_I⟩) ⟨by decide, by decide, show _ = some 1 from by decide +kernel⟩ ⟨⟨by decide, by decide⟩, ⟨by decide, by decide⟩⟩ (Nat.le_of_ble_eq_true rfl) J3
    · refine a_br (fun e5 => ?_) (fun e5 => ?_)
      · exact a_cV_Si (r := p0) (ci := 2) (as := [.int p1]) (st := []) dX1_wilts_8 (c_X1_drinks l g q1 p0 p1) rfl km_X1_drinks (hm_X1_drinks) rfl (by decide) rfl (fun _ _ => e5) w_methodLink_RainCover_Crop_27 w_instanceMethod_RainCover_Crop_drinks__I_I w_selects_RainCover_Crop_RainCover_Crop_drinks__I_I_RainCover_Crop_drinks__I_I ⟨⟨by decide, by decide⟩, ⟨by decide, by decide⟩⟩ (Nat.le_of_ble_eq_true rfl) J3
      · refine a_br (fun e6 => ?_) (fun e6 => ?_)
        · exact a_cU_Si (r := p0) (ci := 5) (as := [.int p1]) (st := []) dX1_wilts_8 (c_X4_drinks l g q1 p0 p1) rfl km_X4_drinks (hm_X4_drinks) ⟨"RainCover$Crop", "drinks", "(I)I"⟩ "RainCover$Crop" rfl (by decide) (fun _ _ => e6) w_methodLink_RainCover_Crop_27 w_sameMethod_RainCover_Crop_RainCover_Crop_drinks__I_I w_instanceMethod_RainCover_Grain_drinks__I_I w_selects_RainCover_Grain_RainCover_Crop_drinks__I_I_RainCover_Grain_drinks__I_I (Or.inr ⟨w_instanceMethod_RainCover_Crop_drinks__I_I, _, _, _, w_code_RainCover_Crop_drinks__I_I⟩) ⟨by decide, by decide, show _ = some 1 from by decide +kernel⟩ ⟨⟨by decide, by decide⟩, ⟨by decide, by decide⟩⟩ (Nat.le_of_ble_eq_true rfl) J3
        · refine a_br (fun e7 => ?_) (fun e7 => ?_)
          · exact a_cU_Si (r := p0) (ci := 6) (as := [.int p1]) (st := []) dX1_wilts_8 (c_X4_drinks l g q1 p0 p1) rfl km_X4_drinks (hm_X4_drinks) ⟨"RainCover$Crop", "drinks", "(I)I"⟩ "RainCover$Crop" rfl (by decide) (fun _ _ => e7) w_methodLink_RainCover_Crop_27 w_sameMethod_RainCover_Crop_RainCover_Crop_drinks__I_I w_instanceMethod_RainCover_Grain_drinks__I_I w_selects_RainCover_Maize_RainCover_Crop_drinks__I_I_RainCover_Grain_drinks__I_I (Or.inr ⟨w_instanceMethod_RainCover_Crop_drinks__I_I, _, _, _, w_code_RainCover_Crop_drinks__I_I⟩) ⟨by decide, by decide, show _ = some 1 from by decide +kernel⟩ ⟨⟨by decide, by decide⟩, ⟨by decide, by decide⟩⟩ (Nat.le_of_ble_eq_true rfl) J3
          · exact a_nb
  refine a_br (fun e9 => ?_) (fun e9 => ?_)
  · exact a_cU_Sv (r := p0) (ci := 1) (as := [.int 11]) (st := []) dX1_wilts_3 (c_X1_runs l g h0 p0 11) rfl km_X1_runs (hm_X1_runs) ⟨"RainCover$Crop", "runs", "(I)V"⟩ "RainCover$Crop" rfl (by decide) (fun _ _ => e9) w_methodLink_RainCover_Crop_23 w_sameMethod_RainCover_Crop_RainCover_Crop_runs__I_V w_instanceMethod_RainCover_Crop_runs__I_V w_selects_RainCover_Bean_RainCover_Crop_runs__I_V_RainCover_Crop_runs__I_V (Or.inl rfl) ⟨by decide, by decide, show _ = some 1 from by decide +kernel⟩ ⟨⟨by decide, by decide⟩, ⟨by decide, by decide⟩⟩ (Nat.le_of_ble_eq_true rfl) J8
  · refine a_br (fun e10 => ?_) (fun e10 => ?_)
    · exact a_cV_Sv (r := p0) (ci := 2) (as := [.int 11]) (st := []) dX1_wilts_3 (c_X1_runs l g h0 p0 11) rfl km_X1_runs (hm_X1_runs) rfl (by decide) rfl (fun _ _ => e10) w_methodLink_RainCover_Crop_23 w_instanceMethod_RainCover_Crop_runs__I_V w_selects_RainCover_Crop_RainCover_Crop_runs__I_V_RainCover_Crop_runs__I_V ⟨⟨by decide, by decide⟩, ⟨by decide, by decide⟩⟩ (Nat.le_of_ble_eq_true rfl) J8
    · refine a_br (fun e11 => ?_) (fun e11 => ?_)
      · exact a_cU_Sv (r := p0) (ci := 5) (as := [.int 11]) (st := []) dX1_wilts_3 (c_X1_runs l g h0 p0 11) rfl km_X1_runs (hm_X1_runs) ⟨"RainCover$Crop", "runs", "(I)V"⟩ "RainCover$Crop" rfl (by decide) (fun _ _ => e11) w_methodLink_RainCover_Crop_23 w_sameMethod_RainCover_Crop_RainCover_Crop_runs__I_V w_instanceMethod_RainCover_Crop_runs__I_V w_selects_RainCover_Grain_RainCover_Crop_runs__I_V_RainCover_Crop_runs__I_V (Or.inl rfl) ⟨by decide, by decide, show _ = some 1 from by decide +kernel⟩ ⟨⟨by decide, by decide⟩, ⟨by decide, by decide⟩⟩ (Nat.le_of_ble_eq_true rfl) J8
      · refine a_br (fun e12 => ?_) (fun e12 => ?_)
        · exact a_cU_Sv (r := p0) (ci := 6) (as := [.int 11]) (st := []) dX1_wilts_3 (c_X1_runs l g h0 p0 11) rfl km_X1_runs (hm_X1_runs) ⟨"RainCover$Crop", "runs", "(I)V"⟩ "RainCover$Crop" rfl (by decide) (fun _ _ => e12) w_methodLink_RainCover_Crop_23 w_sameMethod_RainCover_Crop_RainCover_Crop_runs__I_V w_instanceMethod_RainCover_Crop_runs__I_V w_selects_RainCover_Maize_RainCover_Crop_runs__I_V_RainCover_Crop_runs__I_V (Or.inl rfl) ⟨by decide, by decide, show _ = some 1 from by decide +kernel⟩ ⟨⟨by decide, by decide⟩, ⟨by decide, by decide⟩⟩ (Nat.le_of_ble_eq_true rfl) J8
        · exact a_nb
theorem dX0_wilts_0 : decode cX0_wilts 0 = .ok (.aload_n 0, 1) := by decide +kernel
theorem dX0_wilts_1 : decode cX0_wilts 1 = .ok (.bipush 40, 2) := by decide +kernel
theorem dX0_wilts_3 : decode cX0_wilts 3 = .ok (.invokevirtual 7, 3) := by decide +kernel
theorem dX0_wilts_6 : decode cX0_wilts 6 = .ok (.aload_n 0, 1) := by decide +kernel
theorem dX0_wilts_7 : decode cX0_wilts 7 = .ok (.iload_n 1, 1) := by decide +kernel
theorem dX0_wilts_8 : decode cX0_wilts 8 = .ok (.invokespecial 13, 3) := by decide +kernel
theorem dX0_wilts_11 : decode cX0_wilts 11 = .ok (.iconst 2, 1) := by decide +kernel
theorem dX0_wilts_12 : decode cX0_wilts 12 = .ok (.imul, 1) := by decide +kernel
theorem dX0_wilts_13 : decode cX0_wilts 13 = .ok (.ireturn, 1) := by decide +kernel
abbrev M_X0_wilts : MI := (RX0, cX0_wilts, 2, (some .int), ({ frames := 4, cells := 0, slots := 0, locals := 84 } : Room), 0, 0, false)
def f_X0_wilts (h0 : AH) (p0 : Nat) (p1 : Int32) : Option (Int32 × AH) := if kd h0 p0 = 1 + 1 then (if kd h0 p0 = 2 then f_X1_runs h0 p0 40 else none).bind fun q1 => (if kd q1 p0 = 2 then f_X1_wilts q1 p0 p1 else none).bind fun q2 => some ((q2.1 * 2), q2.2) else none
theorem g_X0_wilts {h0 : AH} {p0 : Nat} {p1 : Int32} {x : (Int32 × AH)} (e : f_X0_wilts h0 p0 p1 = some x) : kd h0 p0 = 1 + 1 := by
  unfold f_X0_wilts at e
  by_cases hk : kd h0 p0 = 1 + 1
  · exact hk
  · rw [if_neg hk] at e
    cases e
theorem km_X0_wilts : KM yX0_wilts M_X0_wilts 1 := ⟨in_tb 1122 (by decide +kernel) rfl, in_tb 25 (by decide +kernel) rfl, by decide +kernel, rfl, rfl⟩
theorem hm_X0_wilts : M_X0_wilts.2.2.2.2.2.1 = 0 ∧ M_X0_wilts.2.2.2.2.2.2.1 = 0 := ⟨rfl, rfl⟩
section
variable {l : Launch} {g : GG}
end
set_option maxRecDepth 100000 in
set_option maxHeartbeats 4000000 in
theorem c_X0_wilts (l : Launch) (g : GG) (h0 : AH) (p0 : Nat) (p1 : Int32) : CN l g yX0_wilts M_X0_wilts false [.ref p0, .int p1] h0 rSi (f_X0_wilts h0 p0 p1) := by
  refine CN.of (by decide) rfl (fun hh => by first | rfl | cases hh) (Nat.le_of_ble_eq_true rfl) ?_
  unfold f_X0_wilts
  refine a_gd (fun hkd => ?_)
  refine a_aload_n dX0_wilts_0 rfl 0 rfl ?_
  refine a_bipush (v := 40) dX0_wilts_1 (by decide) ?_
  have J5 : ∀ (q1 : AH), AO l g M_X0_wilts false h0 6 [(0, .ref p0), (1, .int p1)] [] q1 0 0 rSi ((if kd q1 p0 = 2 then f_X1_wilts q1 p0 p1 else none).bind fun q2 => some ((q2.1 * 2), q2.2)) := by
    intro q1
    refine a_aload_n dX0_wilts_6 rfl 0 rfl ?_
    refine a_iload_n dX0_wilts_7 rfl 1 rfl ?_
    have J3 : ∀ (q2 : Int32 × AH), AO l g M_X0_wilts false h0 11 [(0, .ref p0), (1, .int p1)] [.int q2.1] q2.2 0 0 rSi (some ((q2.1 * 2), q2.2)) := by
      intro q2
      refine a_iconst (v := 2) dX0_wilts_11 (by decide) ?_
      refine a_imul dX0_wilts_12 ?_
      exact a_iret dX0_wilts_13 rfl rfl (by decide) (by decide)
    refine a_br (fun e4 => ?_) (fun e4 => ?_)
    · exact a_cX_Si (r := p0) (ci := 1) (as := [.int p1]) (st := []) dX0_wilts_8 (c_X1_wilts l g q1 p0 p1) rfl km_X1_wilts (hm_X1_wilts) ⟨"RainCover$Crop", "wilts", "(I)I"⟩ "RainCover$Crop" rfl (by decide) (fun _ _ => e4) w_methodLink_RainCover_Bean_13 w_sameMethod_RainCover_Crop_RainCover_Crop_wilts__I_I w_superclass_RainCover_Bean_RainCover_Crop (Or.inl rfl) rfl w_instanceMethod_RainCover_Crop_wilts__I_I (by decide) ⟨⟨by decide, by decide⟩, ⟨by decide, by decide⟩⟩ (Nat.le_of_ble_eq_true rfl) J3
    · exact a_nb
  refine a_br (fun e6 => ?_) (fun e6 => ?_)
  · exact a_cU_Sv (r := p0) (ci := 1) (as := [.int 40]) (st := []) dX0_wilts_3 (c_X1_runs l g h0 p0 40) rfl km_X1_runs (hm_X1_runs) ⟨"RainCover$Bean", "runs", "(I)V"⟩ "RainCover$Crop" rfl (by decide) (fun _ _ => e6) w_methodLink_RainCover_Bean_7 w_sameMethod_RainCover_Bean_RainCover_Crop_runs__I_V w_instanceMethod_RainCover_Crop_runs__I_V w_selects_RainCover_Bean_RainCover_Bean_runs__I_V_RainCover_Crop_runs__I_V (Or.inl rfl) ⟨by decide, by decide, show _ = some 1 from by decide +kernel⟩ ⟨⟨by decide, by decide⟩, ⟨by decide, by decide⟩⟩ (Nat.le_of_ble_eq_true rfl) J5
  · exact a_nb
theorem dX5_wilts_0 : decode cX5_wilts 0 = .ok (.aload_n 0, 1) := by decide +kernel
theorem dX5_wilts_1 : decode cX5_wilts 1 = .ok (.bipush 30, 2) := by decide +kernel
theorem dX5_wilts_3 : decode cX5_wilts 3 = .ok (.invokevirtual 7, 3) := by decide +kernel
theorem dX5_wilts_6 : decode cX5_wilts 6 = .ok (.aload_n 0, 1) := by decide +kernel
theorem dX5_wilts_7 : decode cX5_wilts 7 = .ok (.iload_n 1, 1) := by decide +kernel
theorem dX5_wilts_8 : decode cX5_wilts 8 = .ok (.invokespecial 13, 3) := by decide +kernel
theorem dX5_wilts_11 : decode cX5_wilts 11 = .ok (.iconst 1, 1) := by decide +kernel
theorem dX5_wilts_12 : decode cX5_wilts 12 = .ok (.iadd, 1) := by decide +kernel
theorem dX5_wilts_13 : decode cX5_wilts 13 = .ok (.ireturn, 1) := by decide +kernel
abbrev M_X5_wilts : MI := (RX5, cX5_wilts, 2, (some .int), ({ frames := 4, cells := 0, slots := 0, locals := 84 } : Room), 0, 0, false)
def f_X5_wilts (h0 : AH) (p0 : Nat) (p1 : Int32) : Option (Int32 × AH) := if kd h0 p0 = 6 + 1 then (if kd h0 p0 = 7 then f_X1_runs h0 p0 30 else none).bind fun q1 => (if kd q1 p0 = 7 then f_X1_wilts q1 p0 p1 else none).bind fun q2 => some ((q2.1 + 1), q2.2) else none
theorem g_X5_wilts {h0 : AH} {p0 : Nat} {p1 : Int32} {x : (Int32 × AH)} (e : f_X5_wilts h0 p0 p1 = some x) : kd h0 p0 = 6 + 1 := by
  unfold f_X5_wilts at e
  by_cases hk : kd h0 p0 = 6 + 1
  · exact hk
  · rw [if_neg hk] at e
    cases e
theorem km_X5_wilts : KM yX5_wilts M_X5_wilts 1 := ⟨in_tb 1127 (by decide +kernel) rfl, in_tb 24 (by decide +kernel) rfl, by decide +kernel, rfl, rfl⟩
theorem hm_X5_wilts : M_X5_wilts.2.2.2.2.2.1 = 0 ∧ M_X5_wilts.2.2.2.2.2.2.1 = 0 := ⟨rfl, rfl⟩
section
variable {l : Launch} {g : GG}
end
set_option maxRecDepth 100000 in
set_option maxHeartbeats 4000000 in
theorem c_X5_wilts (l : Launch) (g : GG) (h0 : AH) (p0 : Nat) (p1 : Int32) : CN l g yX5_wilts M_X5_wilts false [.ref p0, .int p1] h0 rSi (f_X5_wilts h0 p0 p1) := by
  refine CN.of (by decide) rfl (fun hh => by first | rfl | cases hh) (Nat.le_of_ble_eq_true rfl) ?_
  unfold f_X5_wilts
  refine a_gd (fun hkd => ?_)
  refine a_aload_n dX5_wilts_0 rfl 0 rfl ?_
  refine a_bipush (v := 30) dX5_wilts_1 (by decide) ?_
  have J5 : ∀ (q1 : AH), AO l g M_X5_wilts false h0 6 [(0, .ref p0), (1, .int p1)] [] q1 0 0 rSi ((if kd q1 p0 = 7 then f_X1_wilts q1 p0 p1 else none).bind fun q2 => some ((q2.1 + 1), q2.2)) := by
    intro q1
    refine a_aload_n dX5_wilts_6 rfl 0 rfl ?_
    refine a_iload_n dX5_wilts_7 rfl 1 rfl ?_
    have J3 : ∀ (q2 : Int32 × AH), AO l g M_X5_wilts false h0 11 [(0, .ref p0), (1, .int p1)] [.int q2.1] q2.2 0 0 rSi (some ((q2.1 + 1), q2.2)) := by
      intro q2
      refine a_iconst (v := 1) dX5_wilts_11 (by decide) ?_
      refine a_iadd dX5_wilts_12 ?_
      exact a_iret dX5_wilts_13 rfl rfl (by decide) (by decide)
    refine a_br (fun e4 => ?_) (fun e4 => ?_)
    · exact a_cX_Si (r := p0) (ci := 6) (as := [.int p1]) (st := []) dX5_wilts_8 (c_X1_wilts l g q1 p0 p1) rfl km_X1_wilts (hm_X1_wilts) ⟨"RainCover$Grain", "wilts", "(I)I"⟩ "RainCover$Crop" rfl (by decide) (fun _ _ => e4) w_methodLink_RainCover_Maize_13 w_sameMethod_RainCover_Grain_RainCover_Crop_wilts__I_I w_superclass_RainCover_Maize_RainCover_Grain (Or.inr w_superclass_RainCover_Grain_RainCover_Crop) rfl w_instanceMethod_RainCover_Crop_wilts__I_I (by decide) ⟨⟨by decide, by decide⟩, ⟨by decide, by decide⟩⟩ (Nat.le_of_ble_eq_true rfl) J3
    · exact a_nb
  refine a_br (fun e6 => ?_) (fun e6 => ?_)
  · exact a_cU_Sv (r := p0) (ci := 6) (as := [.int 30]) (st := []) dX5_wilts_3 (c_X1_runs l g h0 p0 30) rfl km_X1_runs (hm_X1_runs) ⟨"RainCover$Maize", "runs", "(I)V"⟩ "RainCover$Crop" rfl (by decide) (fun _ _ => e6) w_methodLink_RainCover_Maize_7 w_sameMethod_RainCover_Maize_RainCover_Crop_runs__I_V w_instanceMethod_RainCover_Crop_runs__I_V w_selects_RainCover_Maize_RainCover_Maize_runs__I_V_RainCover_Crop_runs__I_V (Or.inl rfl) ⟨by decide, by decide, show _ = some 1 from by decide +kernel⟩ ⟨⟨by decide, by decide⟩, ⟨by decide, by decide⟩⟩ (Nat.le_of_ble_eq_true rfl) J5
  · exact a_nb
theorem dX1_yields_0 : decode cX1_yields 0 = .ok (.aload_n 0, 1) := by decide +kernel
theorem dX1_yields_1 : decode cX1_yields 1 = .ok (.bipush 12, 2) := by decide +kernel
theorem dX1_yields_3 : decode cX1_yields 3 = .ok (.invokevirtual 23, 3) := by decide +kernel
theorem dX1_yields_6 : decode cX1_yields 6 = .ok (.aload_n 0, 1) := by decide +kernel
theorem dX1_yields_7 : decode cX1_yields 7 = .ok (.iload_n 1, 1) := by decide +kernel
theorem dX1_yields_8 : decode cX1_yields 8 = .ok (.invokevirtual 31, 3) := by decide +kernel
theorem dX1_yields_11 : decode cX1_yields 11 = .ok (.aload_n 0, 1) := by decide +kernel
theorem dX1_yields_12 : decode cX1_yields 12 = .ok (.iload_n 1, 1) := by decide +kernel
theorem dX1_yields_13 : decode cX1_yields 13 = .ok (.iconst 1, 1) := by decide +kernel
theorem dX1_yields_14 : decode cX1_yields 14 = .ok (.isub, 1) := by decide +kernel
theorem dX1_yields_15 : decode cX1_yields 15 = .ok (.invokevirtual 27, 3) := by decide +kernel
theorem dX1_yields_18 : decode cX1_yields 18 = .ok (.ixor, 1) := by decide +kernel
theorem dX1_yields_19 : decode cX1_yields 19 = .ok (.ireturn, 1) := by decide +kernel
abbrev M_X1_yields : MI := (RX1, cX1_yields, 2, (some .int), ({ frames := 5, cells := 0, slots := 0, locals := 105 } : Room), 0, 0, false)
def f_X1_yields (h0 : AH) (p0 : Nat) (p1 : Int32) : Option (Int32 × AH) := if kd h0 p0 = 2 ∨ kd h0 p0 = 3 ∨ kd h0 p0 = 6 ∨ kd h0 p0 = 7 then (if kd h0 p0 = 2 then f_X1_runs h0 p0 12 else if kd h0 p0 = 3 then f_X1_runs h0 p0 12 else if kd h0 p0 = 6 then f_X1_runs h0 p0 12 else if kd h0 p0 = 7 then f_X1_runs h0 p0 12 else none).bind fun q1 => (if kd q1 p0 = 2 then f_X0_wilts q1 p0 p1 else if kd q1 p0 = 3 then f_X1_wilts q1 p0 p1 else if kd q1 p0 = 6 then f_X1_wilts q1 p0 p1 else if kd q1 p0 = 7 then f_X5_wilts q1 p0 p1 else none).bind fun q2 => (if kd q2.2 p0 = 2 then f_X0_drinks q2.2 p0 (p1 - 1) else if kd q2.2 p0 = 3 then f_X1_drinks q2.2 p0 (p1 - 1) else if kd q2.2 p0 = 6 then f_X4_drinks q2.2 p0 (p1 - 1) else if kd q2.2 p0 = 7 then f_X4_drinks q2.2 p0 (p1 - 1) else none).bind fun q3 => some ((q2.1 ^^^ q3.1), q3.2) else none
theorem g_X1_yields {h0 : AH} {p0 : Nat} {p1 : Int32} {x : (Int32 × AH)} (e : f_X1_yields h0 p0 p1 = some x) : kd h0 p0 = 2 ∨ kd h0 p0 = 3 ∨ kd h0 p0 = 6 ∨ kd h0 p0 = 7 := by
  unfold f_X1_yields at e
  by_cases hk : kd h0 p0 = 2 ∨ kd h0 p0 = 3 ∨ kd h0 p0 = 6 ∨ kd h0 p0 = 7
  · exact hk
  · rw [if_neg hk] at e
    cases e
theorem km_X1_yields : KM yX1_yields M_X1_yields 1 := ⟨in_tb 1148 (by decide +kernel) rfl, in_tb 22 (by decide +kernel) rfl, by decide +kernel, rfl, rfl⟩
theorem hm_X1_yields : M_X1_yields.2.2.2.2.2.1 = 0 ∧ M_X1_yields.2.2.2.2.2.2.1 = 0 := ⟨rfl, rfl⟩
section
variable {l : Launch} {g : GG}
end
set_option maxRecDepth 100000 in
set_option maxHeartbeats 4000000 in
theorem c_X1_yields (l : Launch) (g : GG) (h0 : AH) (p0 : Nat) (p1 : Int32) : CN l g yX1_yields M_X1_yields false [.ref p0, .int p1] h0 rSi (f_X1_yields h0 p0 p1) := by
  refine CN.of (by decide) rfl (fun hh => by first | rfl | cases hh) (Nat.le_of_ble_eq_true rfl) ?_
  unfold f_X1_yields
  refine a_gd (fun hkd => ?_)
  refine a_aload_n dX1_yields_0 rfl 0 rfl ?_
  refine a_bipush (v := 12) dX1_yields_1 (by decide) ?_
  have J14 : ∀ (q1 : AH), AO l g M_X1_yields false h0 6 [(0, .ref p0), (1, .int p1)] [] q1 0 0 rSi ((if kd q1 p0 = 2 then f_X0_wilts q1 p0 p1 else if kd q1 p0 = 3 then f_X1_wilts q1 p0 p1 else if kd q1 p0 = 6 then f_X1_wilts q1 p0 p1 else if kd q1 p0 = 7 then f_X5_wilts q1 p0 p1 else none).bind fun q2 => (if kd q2.2 p0 = 2 then f_X0_drinks q2.2 p0 (p1 - 1) else if kd q2.2 p0 = 3 then f_X1_drinks q2.2 p0 (p1 - 1) else if kd q2.2 p0 = 6 then f_X4_drinks q2.2 p0 (p1 - 1) else if kd q2.2 p0 = 7 then f_X4_drinks q2.2 p0 (p1 - 1) else none).bind fun q3 => some ((q2.1 ^^^ q3.1), q3.2)) := by
    intro q1
    refine a_aload_n dX1_yields_6 rfl 0 rfl ?_
    refine a_iload_n dX1_yields_7 rfl 1 rfl ?_
    have J9 : ∀ (q2 : Int32 × AH), AO l g M_X1_yields false h0 11 [(0, .ref p0), (1, .int p1)] [.int q2.1] q2.2 0 0 rSi ((if kd q2.2 p0 = 2 then f_X0_drinks q2.2 p0 (p1 - 1) else if kd q2.2 p0 = 3 then f_X1_drinks q2.2 p0 (p1 - 1) else if kd q2.2 p0 = 6 then f_X4_drinks q2.2 p0 (p1 - 1) else if kd q2.2 p0 = 7 then f_X4_drinks q2.2 p0 (p1 - 1) else none).bind fun q3 => some ((q2.1 ^^^ q3.1), q3.2)) := by
      intro q2
      refine a_aload_n dX1_yields_11 rfl 0 rfl ?_
      refine a_iload_n dX1_yields_12 rfl 1 rfl ?_
      refine a_iconst (v := 1) dX1_yields_13 (by decide) ?_
      refine a_isub dX1_yields_14 ?_
      have J4 : ∀ (q3 : Int32 × AH), AO l g M_X1_yields false h0 18 [(0, .ref p0), (1, .int p1)] [.int q3.1, .int q2.1] q3.2 0 0 rSi (some ((q2.1 ^^^ q3.1), q3.2)) := by
        intro q3
        refine a_ixor dX1_yields_18 ?_
        exact a_iret dX1_yields_19 rfl rfl (by decide) (by decide)
      refine a_br (fun e5 => ?_) (fun e5 => ?_)
      · exact a_cU_Si (r := p0) (ci := 1) (as := [.int (p1 - 1)]) (st := [.int q2.1]) dX1_yields_15 (c_X0_drinks l g q2.2 p0 (p1 - 1)) rfl km_X0_drinks (hm_X0_drinks) ⟨"RainCover$Crop", "drinks", "(I)I"⟩ "RainCover$Crop" rfl (by decide) (fun _ _ => e5) w_methodLink_RainCover_Crop_27 w_sameMethod_RainCover_Crop_RainCover_Crop_drinks__I_I w_instanceMethod_RainCover_Bean_drinks__I_I w_selects_RainCover_Bean_RainCover_Crop_drinks__I_I_RainCover_Bean_drinks__I_I (Or.inr ⟨w_instanceMethod_RainCover_Crop_drinks__I_I, _, _, _, w_code_RainCover_Crop_drinks__I_I⟩) ⟨by decide, by decide, show _ = some 1 from by decide +kernel⟩ ⟨⟨by decide, by decide⟩, ⟨by decide, by decide⟩⟩ (Nat.le_of_ble_eq_true rfl) J4
      · refine a_br (fun e6 => ?_) (fun e6 => ?_)
        · exact a_cV_Si (r := p0) (ci := 2) (as := [.int (p1 - 1)]) (st := [.int q2.1]) dX1_yields_15 (c_X1_drinks l g q2.2 p0 (p1 - 1)) rfl km_X1_drinks (hm_X1_drinks) rfl (by decide) rfl (fun _ _ => e6) w_methodLink_RainCover_Crop_27 w_instanceMethod_RainCover_Crop_drinks__I_I w_selects_RainCover_Crop_RainCover_Crop_drinks__I_I_RainCover_Crop_drinks__I_I ⟨⟨by decide, by decide⟩, ⟨by decide, by decide⟩⟩ (Nat.le_of_ble_eq_true rfl) J4
        · refine a_br (fun e7 => ?_) (fun e7 => ?_)
          · exact a_cU_Si (r := p0) (ci := 5) (as := [.int (p1 - 1)]) (st := [.int q2.1]) dX1_yields_15 (c_X4_drinks l g q2.2 p0 (p1 - 1)) rfl km_X4_drinks (hm_X4_drinks) ⟨"RainCover$Crop", "drinks", "(I)I"⟩ "RainCover$Crop" rfl (by decide) (fun _ _ => e7) w_methodLink_RainCover_Crop_27 w_sameMethod_RainCover_Crop_RainCover_Crop_drinks__I_I w_instanceMethod_RainCover_Grain_drinks__I_I w_selects_RainCover_Grain_RainCover_Crop_drinks__I_I_RainCover_Grain_drinks__I_I (Or.inr ⟨w_instanceMethod_RainCover_Crop_drinks__I_I, _, _, _, w_code_RainCover_Crop_drinks__I_I⟩) ⟨by decide, by decide, show _ = some 1 from by decide +kernel⟩ ⟨⟨by decide, by decide⟩, ⟨by decide, by decide⟩⟩ (Nat.le_of_ble_eq_true rfl) J4
          · refine a_br (fun e8 => ?_) (fun e8 => ?_)
            · exact a_cU_Si (r := p0) (ci := 6) (as := [.int (p1 - 1)]) (st := [.int q2.1]) dX1_yields_15 (c_X4_drinks l g q2.2 p0 (p1 - 1)) rfl km_X4_drinks (hm_X4_drinks) ⟨"RainCover$Crop", "drinks", "(I)I"⟩ "RainCover$Crop" rfl (by decide) (fun _ _ => e8) w_methodLink_RainCover_Crop_27 w_sameMethod_RainCover_Crop_RainCover_Crop_drinks__I_I w_instanceMethod_RainCover_Grain_drinks__I_I w_selects_RainCover_Maize_RainCover_Crop_drinks__I_I_RainCover_Grain_drinks__I_I (Or.inr ⟨w_instanceMethod_RainCover_Crop_drinks__I_I, _, _, _, w_code_RainCover_Crop_drinks__I_I⟩) ⟨by decide, by decide, show _ = some 1 from by decide +kernel⟩ ⟨⟨by decide, by decide⟩, ⟨by decide, by decide⟩⟩ (Nat.le_of_ble_eq_true rfl) J4
            · exact a_nb
    refine a_br (fun e10 => ?_) (fun e10 => ?_)
    · exact a_cU_Si (r := p0) (ci := 1) (as := [.int p1]) (st := []) dX1_yields_8 (c_X0_wilts l g q1 p0 p1) rfl km_X0_wilts (hm_X0_wilts) ⟨"RainCover$Crop", "wilts", "(I)I"⟩ "RainCover$Crop" rfl (by decide) (fun _ _ => e10) w_methodLink_RainCover_Crop_31 w_sameMethod_RainCover_Crop_RainCover_Crop_wilts__I_I w_instanceMethod_RainCover_Bean_wilts__I_I w_selects_RainCover_Bean_RainCover_Crop_wilts__I_I_RainCover_Bean_wilts__I_I (Or.inr ⟨w_instanceMethod_RainCover_Crop_wilts__I_I, _, _, _, w_code_RainCover_Crop_wilts__I_I⟩) ⟨by decide, by decide, show _ = some 1 from by decide +kernel⟩ ⟨⟨by decide, by decide⟩, ⟨by decide, by decide⟩⟩ (Nat.le_of_ble_eq_true rfl) J9
    · refine a_br (fun e11 => ?_) (fun e11 => ?_)
      · exact a_cV_Si (r := p0) (ci := 2) (as := [.int p1]) (st := []) dX1_yields_8 (c_X1_wilts l g q1 p0 p1) rfl km_X1_wilts (hm_X1_wilts) rfl (by decide) rfl (fun _ _ => e11) w_methodLink_RainCover_Crop_31 w_instanceMethod_RainCover_Crop_wilts__I_I w_selects_RainCover_Crop_RainCover_Crop_wilts__I_I_RainCover_Crop_wilts__I_I ⟨⟨by decide, by decide⟩, ⟨by decide, by decide⟩⟩ (Nat.le_of_ble_eq_true rfl) J9
      · refine a_br (fun e12 => ?_) (fun e12 => ?_)
        · exact a_cU_Si (r := p0) (ci := 5) (as := [.int p1]) (st := []) dX1_yields_8 (c_X1_wilts l g q1 p0 p1) rfl km_X1_wilts (hm_X1_wilts) ⟨"RainCover$Crop", "wilts", "(I)I"⟩ "RainCover$Crop" rfl (by decide) (fun _ _ => e12) w_methodLink_RainCover_Crop_31 w_sameMethod_RainCover_Crop_RainCover_Crop_wilts__I_I w_instanceMethod_RainCover_Crop_wilts__I_I w_selects_RainCover_Grain_RainCover_Crop_wilts__I_I_RainCover_Crop_wilts__I_I (Or.inl rfl) ⟨by decide, by decide, show _ = some 1 from by decide +kernel⟩ ⟨⟨by decide, by decide⟩, ⟨by decide, by decide⟩⟩ (Nat.le_of_ble_eq_true rfl) J9
        · refine a_br (fun e13 => ?_) (fun e13 => ?_)
          · exact a_cU_Si (r := p0) (ci := 6) (as := [.int p1]) (st := []) dX1_yields_8 (c_X5_wilts l g q1 p0 p1) rfl km_X5_wilts (hm_X5_wilts) ⟨"RainCover$Crop", "wilts", "(I)I"⟩ "RainCover$Crop" rfl (by decide) (fun _ _ => e13) w_methodLink_RainCover_Crop_31 w_sameMethod_RainCover_Crop_RainCover_Crop_wilts__I_I w_instanceMethod_RainCover_Maize_wilts__I_I w_selects_RainCover_Maize_RainCover_Crop_wilts__I_I_RainCover_Maize_wilts__I_I (Or.inr ⟨w_instanceMethod_RainCover_Crop_wilts__I_I, _, _, _, w_code_RainCover_Crop_wilts__I_I⟩) ⟨by decide, by decide, show _ = some 1 from by decide +kernel⟩ ⟨⟨by decide, by decide⟩, ⟨by decide, by decide⟩⟩ (Nat.le_of_ble_eq_true rfl) J9
          · exact a_nb
  refine a_br (fun e15 => ?_) (fun e15 => ?_)
  · exact a_cU_Sv (r := p0) (ci := 1) (as := [.int 12]) (st := []) dX1_yields_3 (c_X1_runs l g h0 p0 12) rfl km_X1_runs (hm_X1_runs) ⟨"RainCover$Crop", "runs", "(I)V"⟩ "RainCover$Crop" rfl (by decide) (fun _ _ => e15) w_methodLink_RainCover_Crop_23 w_sameMethod_RainCover_Crop_RainCover_Crop_runs__I_V w_instanceMethod_RainCover_Crop_runs__I_V w_selects_RainCover_Bean_RainCover_Crop_runs__I_V_RainCover_Crop_runs__I_V (Or.inl rfl) ⟨by decide, by decide, show _ = some 1 from by decide +kernel⟩ ⟨⟨by decide, by decide⟩, ⟨by decide, by decide⟩⟩ (Nat.le_of_ble_eq_true rfl) J14
  · refine a_br (fun e16 => ?_) (fun e16 => ?_)
    · exact a_cV_Sv (r := p0) (ci := 2) (as := [.int 12]) (st := []) dX1_yields_3 (c_X1_runs l g h0 p0 12) rfl km_X1_runs (hm_X1_runs) rfl (by decide) rfl (fun _ _ => e16) w_methodLink_RainCover_Crop_23 w_instanceMethod_RainCover_Crop_runs__I_V w_selects_RainCover_Crop_RainCover_Crop_runs__I_V_RainCover_Crop_runs__I_V ⟨⟨by decide, by decide⟩, ⟨by decide, by decide⟩⟩ (Nat.le_of_ble_eq_true rfl) J14
    · refine a_br (fun e17 => ?_) (fun e17 => ?_)
      · exact a_cU_Sv (r := p0) (ci := 5) (as := [.int 12]) (st := []) dX1_yields_3 (c_X1_runs l g h0 p0 12) rfl km_X1_runs (hm_X1_runs) ⟨"RainCover$Crop", "runs", "(I)V"⟩ "RainCover$Crop" rfl (by decide) (fun _ _ => e17) w_methodLink_RainCover_Crop_23 w_sameMethod_RainCover_Crop_RainCover_Crop_runs__I_V w_instanceMethod_RainCover_Crop_runs__I_V w_selects_RainCover_Grain_RainCover_Crop_runs__I_V_RainCover_Crop_runs__I_V (Or.inl rfl) ⟨by decide, by decide, show _ = some 1 from by decide +kernel⟩ ⟨⟨by decide, by decide⟩, ⟨by decide, by decide⟩⟩ (Nat.le_of_ble_eq_true rfl) J14
      · refine a_br (fun e18 => ?_) (fun e18 => ?_)
        · exact a_cU_Sv (r := p0) (ci := 6) (as := [.int 12]) (st := []) dX1_yields_3 (c_X1_runs l g h0 p0 12) rfl km_X1_runs (hm_X1_runs) ⟨"RainCover$Crop", "runs", "(I)V"⟩ "RainCover$Crop" rfl (by decide) (fun _ _ => e18) w_methodLink_RainCover_Crop_23 w_sameMethod_RainCover_Crop_RainCover_Crop_runs__I_V w_instanceMethod_RainCover_Crop_runs__I_V w_selects_RainCover_Maize_RainCover_Crop_runs__I_V_RainCover_Crop_runs__I_V (Or.inl rfl) ⟨by decide, by decide, show _ = some 1 from by decide +kernel⟩ ⟨⟨by decide, by decide⟩, ⟨by decide, by decide⟩⟩ (Nat.le_of_ble_eq_true rfl) J14
        · exact a_nb
theorem dX5_yields_0 : decode cX5_yields 0 = .ok (.aload_n 0, 1) := by decide +kernel
theorem dX5_yields_1 : decode cX5_yields 1 = .ok (.bipush 31, 2) := by decide +kernel
theorem dX5_yields_3 : decode cX5_yields 3 = .ok (.invokevirtual 7, 3) := by decide +kernel
theorem dX5_yields_6 : decode cX5_yields 6 = .ok (.aload_n 0, 1) := by decide +kernel
theorem dX5_yields_7 : decode cX5_yields 7 = .ok (.iload_n 1, 1) := by decide +kernel
theorem dX5_yields_8 : decode cX5_yields 8 = .ok (.iconst 2, 1) := by decide +kernel
theorem dX5_yields_9 : decode cX5_yields 9 = .ok (.iadd, 1) := by decide +kernel
theorem dX5_yields_10 : decode cX5_yields 10 = .ok (.invokespecial 17, 3) := by decide +kernel
theorem dX5_yields_13 : decode cX5_yields 13 = .ok (.ireturn, 1) := by decide +kernel
abbrev M_X5_yields : MI := (RX5, cX5_yields, 2, (some .int), ({ frames := 6, cells := 0, slots := 0, locals := 126 } : Room), 0, 0, false)
def f_X5_yields (h0 : AH) (p0 : Nat) (p1 : Int32) : Option (Int32 × AH) := if kd h0 p0 = 6 + 1 then (if kd h0 p0 = 7 then f_X1_runs h0 p0 31 else none).bind fun q1 => (if kd q1 p0 = 7 then f_X1_yields q1 p0 (p1 + 2) else none).bind fun q2 => some (q2.1, q2.2) else none
theorem g_X5_yields {h0 : AH} {p0 : Nat} {p1 : Int32} {x : (Int32 × AH)} (e : f_X5_yields h0 p0 p1 = some x) : kd h0 p0 = 6 + 1 := by
  unfold f_X5_yields at e
  by_cases hk : kd h0 p0 = 6 + 1
  · exact hk
  · rw [if_neg hk] at e
    cases e
theorem km_X5_yields : KM yX5_yields M_X5_yields 1 := ⟨in_tb 1144 (by decide +kernel) rfl, in_tb 24 (by decide +kernel) rfl, by decide +kernel, rfl, rfl⟩
theorem hm_X5_yields : M_X5_yields.2.2.2.2.2.1 = 0 ∧ M_X5_yields.2.2.2.2.2.2.1 = 0 := ⟨rfl, rfl⟩
section
variable {l : Launch} {g : GG}
end
set_option maxRecDepth 100000 in
set_option maxHeartbeats 4000000 in
theorem c_X5_yields (l : Launch) (g : GG) (h0 : AH) (p0 : Nat) (p1 : Int32) : CN l g yX5_yields M_X5_yields false [.ref p0, .int p1] h0 rSi (f_X5_yields h0 p0 p1) := by
  refine CN.of (by decide) rfl (fun hh => by first | rfl | cases hh) (Nat.le_of_ble_eq_true rfl) ?_
  unfold f_X5_yields
  refine a_gd (fun hkd => ?_)
  refine a_aload_n dX5_yields_0 rfl 0 rfl ?_
  refine a_bipush (v := 31) dX5_yields_1 (by decide) ?_
  have J5 : ∀ (q1 : AH), AO l g M_X5_yields false h0 6 [(0, .ref p0), (1, .int p1)] [] q1 0 0 rSi ((if kd q1 p0 = 7 then f_X1_yields q1 p0 (p1 + 2) else none).bind fun q2 => some (q2.1, q2.2)) := by
    intro q1
    refine a_aload_n dX5_yields_6 rfl 0 rfl ?_
    refine a_iload_n dX5_yields_7 rfl 1 rfl ?_
    refine a_iconst (v := 2) dX5_yields_8 (by decide) ?_
    refine a_iadd dX5_yields_9 ?_
    have J3 : ∀ (q2 : Int32 × AH), AO l g M_X5_yields false h0 13 [(0, .ref p0), (1, .int p1)] [.int q2.1] q2.2 0 0 rSi (some (q2.1, q2.2)) := by
      intro q2
      exact a_iret dX5_yields_13 rfl rfl (by decide) (by decide)
    refine a_br (fun e4 => ?_) (fun e4 => ?_)
    · exact a_cX_Si (r := p0) (ci := 6) (as := [.int (p1 + 2)]) (st := []) dX5_yields_10 (c_X1_yields l g q1 p0 (p1 + 2)) rfl km_X1_yields (hm_X1_yields) ⟨"RainCover$Grain", "yields", "(I)I"⟩ "RainCover$Crop" rfl (by decide) (fun _ _ => e4) w_methodLink_RainCover_Maize_17 w_sameMethod_RainCover_Grain_RainCover_Crop_yields__I_I w_superclass_RainCover_Maize_RainCover_Grain (Or.inr w_superclass_RainCover_Grain_RainCover_Crop) rfl w_instanceMethod_RainCover_Crop_yields__I_I (by decide) ⟨⟨by decide, by decide⟩, ⟨by decide, by decide⟩⟩ (Nat.le_of_ble_eq_true rfl) J3
    · exact a_nb
  refine a_br (fun e6 => ?_) (fun e6 => ?_)
  · exact a_cU_Sv (r := p0) (ci := 6) (as := [.int 31]) (st := []) dX5_yields_3 (c_X1_runs l g h0 p0 31) rfl km_X1_runs (hm_X1_runs) ⟨"RainCover$Maize", "runs", "(I)V"⟩ "RainCover$Crop" rfl (by decide) (fun _ _ => e6) w_methodLink_RainCover_Maize_7 w_sameMethod_RainCover_Maize_RainCover_Crop_runs__I_V w_instanceMethod_RainCover_Crop_runs__I_V w_selects_RainCover_Maize_RainCover_Maize_runs__I_V_RainCover_Crop_runs__I_V (Or.inl rfl) ⟨by decide, by decide, show _ = some 1 from by decide +kernel⟩ ⟨⟨by decide, by decide⟩, ⟨by decide, by decide⟩⟩ (Nat.le_of_ble_eq_true rfl) J5
  · exact a_nb
theorem dX11_act_0 : decode cX11_act 0 = .ok (.aload_n 0, 1) := by decide +kernel
theorem dX11_act_1 : decode cX11_act 1 = .ok (.aconst_null, 1) := by decide +kernel
theorem dX11_act_2 : decode cX11_act 2 = .ok (.putfield 80, 3) := by decide +kernel
theorem dX11_act_5 : decode cX11_act 5 = .ok (.aload_n 0, 1) := by decide +kernel
theorem dX11_act_6 : decode cX11_act 6 = .ok (.iload_n 1, 1) := by decide +kernel
theorem dX11_act_7 : decode cX11_act 7 = .ok (.invokevirtual 254, 3) := by decide +kernel
theorem dX11_act_10 : decode cX11_act 10 = .ok (.ifCond .eq 12, 3) := by decide +kernel
theorem dX11_act_13 : decode cX11_act 13 = .ok (.iload_n 2, 1) := by decide +kernel
theorem dX11_act_14 : decode cX11_act 14 = .ok (.iconst 0, 1) := by decide +kernel
theorem dX11_act_15 : decode cX11_act 15 = .ok (.iconst 2, 1) := by decide +kernel
theorem dX11_act_16 : decode cX11_act 16 = .ok (.invokestatic 120, 3) := by decide +kernel
theorem dX11_act_19 : decode cX11_act 19 = .ok (.ifCond .ne 5, 3) := by decide +kernel
theorem dX11_act_22 : decode cX11_act 22 = .ok (.iconst 0, 1) := by decide +kernel
theorem dX11_act_23 : decode cX11_act 23 = .ok (.ireturn, 1) := by decide +kernel
theorem dX11_act_24 : decode cX11_act 24 = .ok (.aload_n 0, 1) := by decide +kernel
theorem dX11_act_25 : decode cX11_act 25 = .ok (.aload_n 0, 1) := by decide +kernel
theorem dX11_act_26 : decode cX11_act 26 = .ok (.getfield 21, 3) := by decide +kernel
theorem dX11_act_29 : decode cX11_act 29 = .ok (.iload_n 1, 1) := by decide +kernel
theorem dX11_act_30 : decode cX11_act 30 = .ok (.invokevirtual 124, 3) := by decide +kernel
theorem dX11_act_33 : decode cX11_act 33 = .ok (.checkcast 233, 3) := by decide +kernel
theorem dX11_act_36 : decode cX11_act 36 = .ok (.getfield 312, 3) := by decide +kernel
theorem dX11_act_39 : decode cX11_act 39 = .ok (.putfield 80, 3) := by decide +kernel
theorem dX11_act_42 : decode cX11_act 42 = .ok (.aload_n 0, 1) := by decide +kernel
theorem dX11_act_43 : decode cX11_act 43 = .ok (.getfield 80, 3) := by decide +kernel
theorem dX11_act_46 : decode cX11_act 46 = .ok (.iconst 0, 1) := by decide +kernel
theorem dX11_act_47 : decode cX11_act 47 = .ok (.putfield 463, 3) := by decide +kernel
theorem dX11_act_50 : decode cX11_act 50 = .ok (.iload_n 2, 1) := by decide +kernel
theorem dX11_act_51 : decode cX11_act 51 = .ok (.lookupswitch 43 #[(0, 25), (1, 34)], 25) := by decide +kernel
theorem dX11_act_76 : decode cX11_act 76 = .ok (.aload_n 0, 1) := by decide +kernel
theorem dX11_act_77 : decode cX11_act 77 = .ok (.getfield 80, 3) := by decide +kernel
theorem dX11_act_80 : decode cX11_act 80 = .ok (.iload_n 3, 1) := by decide +kernel
theorem dX11_act_81 : decode cX11_act 81 = .ok (.invokevirtual 466, 3) := by decide +kernel
theorem dX11_act_84 : decode cX11_act 84 = .ok (.ireturn, 1) := by decide +kernel
theorem dX11_act_85 : decode cX11_act 85 = .ok (.aload_n 0, 1) := by decide +kernel
theorem dX11_act_86 : decode cX11_act 86 = .ok (.getfield 80, 3) := by decide +kernel
theorem dX11_act_89 : decode cX11_act 89 = .ok (.iload_n 3, 1) := by decide +kernel
theorem dX11_act_90 : decode cX11_act 90 = .ok (.invokevirtual 469, 3) := by decide +kernel
theorem dX11_act_93 : decode cX11_act 93 = .ok (.ireturn, 1) := by decide +kernel
theorem dX11_act_94 : decode cX11_act 94 = .ok (.aload_n 0, 1) := by decide +kernel
theorem dX11_act_95 : decode cX11_act 95 = .ok (.getfield 80, 3) := by decide +kernel
theorem dX11_act_98 : decode cX11_act 98 = .ok (.iload_n 3, 1) := by decide +kernel
theorem dX11_act_99 : decode cX11_act 99 = .ok (.invokevirtual 472, 3) := by decide +kernel
theorem dX11_act_102 : decode cX11_act 102 = .ok (.ireturn, 1) := by decide +kernel
abbrev M_X11_act : MI := (RX11, cX11_act, 4, (some .int), ({ frames := 7, cells := 0, slots := 0, locals := 147 } : Room), 0, 0, false)
def f_X11_act (h0 : AH) (p0 : Nat) (p1 : Int32) (p2 : Int32) (p3 : Int32) : Option (Int32 × AH) := if kd h0 p0 = 12 + 1 then (xpn h0 p0 12 15 ).bind fun h1 => (f_X11_isFarm h1 p0 p1).bind fun v2 => (if v2 = 0 then some (0, h1) else (f_X11_within h1 p2 0 2).bind fun v4 => (if v4 = 0 then some (0, h1) else (xgr h1 p0 12 2).bind fun v6 => (f_Jx4a65c_get_915e3 h1 v6 p1).bind fun v7 => (xcc h1 v7 3).bind fun _ => (xgr h1 v7 3 4).bind fun v8 => (xpr h1 p0 12 15 v8).bind fun h9 => (xgn h9 p0 12 15).bind fun v10 => v10.elim (none) fun w11 => (xpc h9 w11 3 0).bind fun h12 => (if p2 = 0 then (xgn h12 p0 12 15).bind fun v14 => v14.elim (none) fun w15 => (if kd h12 w15 = 2 then f_X0_drinks h12 w15 p3 else if kd h12 w15 = 3 then f_X1_drinks h12 w15 p3 else if kd h12 w15 = 6 then f_X4_drinks h12 w15 p3 else if kd h12 w15 = 7 then f_X4_drinks h12 w15 p3 else none).bind fun q16 => some (q16.1, q16.2) else (if p2 = 1 then (xgn h12 p0 12 15).bind fun v23 => v23.elim (none) fun w24 => (if kd h12 w24 = 2 then f_X0_wilts h12 w24 p3 else if kd h12 w24 = 3 then f_X1_wilts h12 w24 p3 else if kd h12 w24 = 6 then f_X1_wilts h12 w24 p3 else if kd h12 w24 = 7 then f_X5_wilts h12 w24 p3 else none).bind fun q25 => some (q25.1, q25.2) else (xgn h12 p0 12 15).bind fun v31 => v31.elim (none) fun w32 => (if kd h12 w32 = 2 then f_X1_yields h12 w32 p3 else if kd h12 w32 = 3 then f_X1_yields h12 w32 p3 else if kd h12 w32 = 6 then f_X1_yields h12 w32 p3 else if kd h12 w32 = 7 then f_X5_yields h12 w32 p3 else none).bind fun q33 => some (q33.1, q33.2))))) else none
theorem g_X11_act {h0 : AH} {p0 : Nat} {p1 : Int32} {p2 : Int32} {p3 : Int32} {x : (Int32 × AH)} (e : f_X11_act h0 p0 p1 p2 p3 = some x) : kd h0 p0 = 12 + 1 := by
  unfold f_X11_act at e
  by_cases hk : kd h0 p0 = 12 + 1
  · exact hk
  · rw [if_neg hk] at e
    cases e
theorem km_X11_act : KM yX11_act M_X11_act 3 := ⟨in_tb 1090 (by decide +kernel) rfl, in_tb 1 (by decide +kernel) rfl, by decide +kernel, rfl, rfl⟩
theorem hm_X11_act : M_X11_act.2.2.2.2.2.1 = 0 ∧ M_X11_act.2.2.2.2.2.2.1 = 0 := ⟨rfl, rfl⟩
section
variable {l : Launch} {g : GG}
end
set_option maxRecDepth 100000 in
set_option maxHeartbeats 4000000 in
theorem c_X11_act (l : Launch) (g : GG) (h0 : AH) (p0 : Nat) (p1 : Int32) (p2 : Int32) (p3 : Int32) : CN l g yX11_act M_X11_act false [.ref p0, .int p1, .int p2, .int p3] h0 rSi (f_X11_act h0 p0 p1 p2 p3) := by
  refine CN.of (by decide) rfl (fun hh => by first | rfl | cases hh) (Nat.le_of_ble_eq_true rfl) ?_
  unfold f_X11_act
  refine a_gd (fun hkd => ?_)
  refine a_aload_n dX11_act_0 rfl 0 rfl ?_
  refine a_null dX11_act_1 ?_
  refine a_putn (x := ()) kc12 15 dX11_act_2 (by decide) rfl w_fieldLink_RainCover_80 ⟨rfl, rfl⟩ rfl (fun h1 => ?_)
  refine a_aload_n dX11_act_5 rfl 0 rfl ?_
  refine a_iload_n dX11_act_6 rfl 1 rfl ?_
  refine a_cV_Pi (r := p0) (ci := 12) (as := [.int p1]) (st := []) dX11_act_7 (c_X11_isFarm l g h1 p0 p1) rfl km_X11_isFarm (hm_X11_isFarm) rfl (by decide) rfl (fun _ ee => g_X11_isFarm ee) w_methodLink_RainCover_254 w_instanceMethod_RainCover_isFarm__I_Z w_selects_RainCover_RainCover_isFarm__I_Z_RainCover_isFarm__I_Z ⟨⟨by decide, by decide⟩, ⟨by decide, by decide⟩⟩ (Nat.le_of_ble_eq_true rfl) (fun v2 => ?_)
  refine a_if_eq 22 dX11_act_10 (by decide) (fun c3 => ?_) (fun c3 => ?_)
  · refine a_iconst (v := 0) dX11_act_22 (by decide) ?_
    exact a_iret dX11_act_23 rfl rfl (by decide) (by decide)
  · refine a_iload_n dX11_act_13 rfl 2 rfl ?_
    refine a_iconst (v := 0) dX11_act_14 (by decide) ?_
    refine a_iconst (v := 2) dX11_act_15 (by decide) ?_
    refine a_cS_Pi (as := [.int p2, .int 0, .int 2]) (st := []) dX11_act_16 (c_X11_within l g h1 p2 0 2) rfl km_X11_within (hm_X11_within) w_methodLink_RainCover_120 w_static_RainCover_within__III_Z ⟨⟨by decide, by decide⟩, ⟨by decide, by decide⟩⟩ (Nat.le_of_ble_eq_true rfl) (fun v4 => ?_)
    refine a_if_ne 24 dX11_act_19 (by decide) (fun c5 => ?_) (fun c5 => ?_)
    · refine a_iconst (v := 0) dX11_act_22 (by decide) ?_
      exact a_iret dX11_act_23 rfl rfl (by decide) (by decide)
    · refine a_aload_n dX11_act_24 rfl 0 rfl ?_
      refine a_aload_n dX11_act_25 rfl 0 rfl ?_
      refine a_getr kc12 2 dX11_act_26 (by decide) rfl w_fieldLink_RainCover_21 (fun v6 => ?_)
      refine a_iload_n dX11_act_29 rfl 1 rfl ?_
      refine a_cV_Pr (r := v6) (ci := 0) (as := [.int p1]) (st := [.ref p0]) dX11_act_30 (c_Jx4a65c_get_915e3 l g h1 v6 p1) rfl km_Jx4a65c_get_915e3 (hm_Jx4a65c_get_915e3) rfl (by decide) rfl (fun _ ee => g_Jx4a65c_get_915e3 ee) w_methodLink_RainCover_124 w_instanceMethod_java_util_ArrayList_get__I_Ljava_lang_Object_ w_selects_java_util_ArrayList_java_util_ArrayList_get__I_Ljava_lang_Object__java_util_ArrayList_get__I_Ljava_lang_Object_ ⟨⟨by decide, by decide⟩, ⟨by decide, by decide⟩⟩ (Nat.le_of_ble_eq_true rfl) (fun v7 => ?_)
      refine a_cast kc3 dX11_act_33 w_classLink_RainCover_233 ?_
      refine a_getr kc3 4 dX11_act_36 (by decide) rfl w_fieldLink_RainCover_312 (fun v8 => ?_)
      refine a_putr kc12 15 dX11_act_39 (by decide) rfl w_fieldLink_RainCover_80 (fun _ => ⟨rfl, rfl⟩) rfl (fun h9 => ?_)
      refine a_aload_n dX11_act_42 rfl 0 rfl ?_
      refine a_getn kc12 15 dX11_act_43 (by decide) rfl w_fieldLink_RainCover_80 (fun v10 => ?_)
      refine a_opt ?_ (fun w11 => ?_)
      · refine a_iconst (v := 0) dX11_act_46 (by decide) ?_
        exact a_none
      · refine a_iconst (v := 0) dX11_act_46 (by decide) ?_
        refine a_pc3 dX11_act_47 w_fieldLink_RainCover_463 (fun h12 => ?_)
        refine a_iload_n dX11_act_50 rfl 2 rfl ?_
        refine a_swl (v := 0) 76 dX11_act_51 (by decide) (by decide) (fun c13 => ?_) (fun c13 => ?_)
        · refine a_aload_n dX11_act_76 rfl 0 rfl ?_
          refine a_getn kc12 15 dX11_act_77 (by decide) rfl w_fieldLink_RainCover_80 (fun v14 => ?_)
          refine a_opt ?_ (fun w15 => ?_)
          · refine a_iload_n dX11_act_80 rfl 3 rfl ?_
            exact a_none
          · refine a_iload_n dX11_act_80 rfl 3 rfl ?_
            have J17 : ∀ (q16 : Int32 × AH), AO l g M_X11_act false h0 84 [(0, .ref p0), (1, .int p1), (2, .int p2), (3, .int p3)] [.int q16.1] q16.2 0 0 rSi (some (q16.1, q16.2)) := by
              intro q16
              exact a_iret dX11_act_84 rfl rfl (by decide) (by decide)
            refine a_br (fun e18 => ?_) (fun e18 => ?_)
            · exact a_cU_Si (r := w15) (ci := 1) (as := [.int p3]) (st := []) dX11_act_81 (c_X0_drinks l g h12 w15 p3) rfl km_X0_drinks (hm_X0_drinks) ⟨"RainCover$Crop", "drinks", "(I)I"⟩ "RainCover$Crop" rfl (by decide) (fun _ _ => e18) w_methodLink_RainCover_466 w_sameMethod_RainCover_Crop_RainCover_Crop_drinks__I_I w_instanceMethod_RainCover_Bean_drinks__I_I w_selects_RainCover_Bean_RainCover_Crop_drinks__I_I_RainCover_Bean_drinks__I_I (Or.inr ⟨w_instanceMethod_RainCover_Crop_drinks__I_I, _, _, _, w_code_RainCover_Crop_drinks__I_I⟩) ⟨by decide, by decide, show _ = some 1 from by decide +kernel⟩ ⟨⟨by decide, by decide⟩, ⟨by decide, by decide⟩⟩ (Nat.le_of_ble_eq_true rfl) J17
            · refine a_br (fun e19 => ?_) (fun e19 => ?_)
              · exact a_cV_Si (r := w15) (ci := 2) (as := [.int p3]) (st := []) dX11_act_81 (c_X1_drinks l g h12 w15 p3) rfl km_X1_drinks (hm_X1_drinks) rfl (by decide) rfl (fun _ _ => e19) w_methodLink_RainCover_466 w_instanceMethod_RainCover_Crop_drinks__I_I w_selects_RainCover_Crop_RainCover_Crop_drinks__I_I_RainCover_Crop_drinks__I_I ⟨⟨by decide, by decide⟩, ⟨by decide, by decide⟩⟩ (Nat.le_of_ble_eq_true rfl) J17
              · refine a_br (fun e20 => ?_) (fun e20 => ?_)
                · exact a_cU_Si (r := w15) (ci := 5) (as := [.int p3]) (st := []) dX11_act_81 (c_X4_drinks l g h12 w15 p3) rfl km_X4_drinks (hm_X4_drinks) ⟨"RainCover$Crop", "drinks", "(I)I"⟩ "RainCover$Crop" rfl (by decide) (fun _ _ => e20) w_methodLink_RainCover_466 w_sameMethod_RainCover_Crop_RainCover_Crop_drinks__I_I w_instanceMethod_RainCover_Grain_drinks__I_I w_selects_RainCover_Grain_RainCover_Crop_drinks__I_I_RainCover_Grain_drinks__I_I (Or.inr ⟨w_instanceMethod_RainCover_Crop_drinks__I_I, _, _, _, w_code_RainCover_Crop_drinks__I_I⟩) ⟨by decide, by decide, show _ = some 1 from by decide +kernel⟩ ⟨⟨by decide, by decide⟩, ⟨by decide, by decide⟩⟩ (Nat.le_of_ble_eq_true rfl) J17
                · refine a_br (fun e21 => ?_) (fun e21 => ?_)
                  · exact a_cU_Si (r := w15) (ci := 6) (as := [.int p3]) (st := []) dX11_act_81 (c_X4_drinks l g h12 w15 p3) rfl km_X4_drinks (hm_X4_drinks) ⟨"RainCover$Crop", "drinks", "(I)I"⟩ "RainCover$Crop" rfl (by decide) (fun _ _ => e21) w_methodLink_RainCover_466 w_sameMethod_RainCover_Crop_RainCover_Crop_drinks__I_I w_instanceMethod_RainCover_Grain_drinks__I_I w_selects_RainCover_Maize_RainCover_Crop_drinks__I_I_RainCover_Grain_drinks__I_I (Or.inr ⟨w_instanceMethod_RainCover_Crop_drinks__I_I, _, _, _, w_code_RainCover_Crop_drinks__I_I⟩) ⟨by decide, by decide, show _ = some 1 from by decide +kernel⟩ ⟨⟨by decide, by decide⟩, ⟨by decide, by decide⟩⟩ (Nat.le_of_ble_eq_true rfl) J17
                  · exact a_nb
        refine a_swl (v := 1) 85 dX11_act_51 (by decide) (by decide) (fun c22 => ?_) (fun c22 => ?_)
        · refine a_aload_n dX11_act_85 rfl 0 rfl ?_
          refine a_getn kc12 15 dX11_act_86 (by decide) rfl w_fieldLink_RainCover_80 (fun v23 => ?_)
          refine a_opt ?_ (fun w24 => ?_)
          · refine a_iload_n dX11_act_89 rfl 3 rfl ?_
            exact a_none
          · refine a_iload_n dX11_act_89 rfl 3 rfl ?_
            have J26 : ∀ (q25 : Int32 × AH), AO l g M_X11_act false h0 93 [(0, .ref p0), (1, .int p1), (2, .int p2), (3, .int p3)] [.int q25.1] q25.2 0 0 rSi (some (q25.1, q25.2)) := by
              intro q25
              exact a_iret dX11_act_93 rfl rfl (by decide) (by decide)
            refine a_br (fun e27 => ?_) (fun e27 => ?_)
            · exact a_cU_Si (r := w24) (ci := 1) (as := [.int p3]) (st := []) dX11_act_90 (c_X0_wilts l g h12 w24 p3) rfl km_X0_wilts (hm_X0_wilts) ⟨"RainCover$Crop", "wilts", "(I)I"⟩ "RainCover$Crop" rfl (by decide) (fun _ _ => e27) w_methodLink_RainCover_469 w_sameMethod_RainCover_Crop_RainCover_Crop_wilts__I_I w_instanceMethod_RainCover_Bean_wilts__I_I w_selects_RainCover_Bean_RainCover_Crop_wilts__I_I_RainCover_Bean_wilts__I_I (Or.inr ⟨w_instanceMethod_RainCover_Crop_wilts__I_I, _, _, _, w_code_RainCover_Crop_wilts__I_I⟩) ⟨by decide, by decide, show _ = some 1 from by decide +kernel⟩ ⟨⟨by decide, by decide⟩, ⟨by decide, by decide⟩⟩ (Nat.le_of_ble_eq_true rfl) J26
            · refine a_br (fun e28 => ?_) (fun e28 => ?_)
              · exact a_cV_Si (r := w24) (ci := 2) (as := [.int p3]) (st := []) dX11_act_90 (c_X1_wilts l g h12 w24 p3) rfl km_X1_wilts (hm_X1_wilts) rfl (by decide) rfl (fun _ _ => e28) w_methodLink_RainCover_469 w_instanceMethod_RainCover_Crop_wilts__I_I w_selects_RainCover_Crop_RainCover_Crop_wilts__I_I_RainCover_Crop_wilts__I_I ⟨⟨by decide, by decide⟩, ⟨by decide, by decide⟩⟩ (Nat.le_of_ble_eq_true rfl) J26
              · refine a_br (fun e29 => ?_) (fun e29 => ?_)
                · exact a_cU_Si (r := w24) (ci := 5) (as := [.int p3]) (st := []) dX11_act_90 (c_X1_wilts l g h12 w24 p3) rfl km_X1_wilts (hm_X1_wilts) ⟨"RainCover$Crop", "wilts", "(I)I"⟩ "RainCover$Crop" rfl (by decide) (fun _ _ => e29) w_methodLink_RainCover_469 w_sameMethod_RainCover_Crop_RainCover_Crop_wilts__I_I w_instanceMethod_RainCover_Crop_wilts__I_I w_selects_RainCover_Grain_RainCover_Crop_wilts__I_I_RainCover_Crop_wilts__I_I (Or.inl rfl) ⟨by decide, by decide, show _ = some 1 from by decide +kernel⟩ ⟨⟨by decide, by decide⟩, ⟨by decide, by decide⟩⟩ (Nat.le_of_ble_eq_true rfl) J26
                · refine a_br (fun e30 => ?_) (fun e30 => ?_)
                  · exact a_cU_Si (r := w24) (ci := 6) (as := [.int p3]) (st := []) dX11_act_90 (c_X5_wilts l g h12 w24 p3) rfl km_X5_wilts (hm_X5_wilts) ⟨"RainCover$Crop", "wilts", "(I)I"⟩ "RainCover$Crop" rfl (by decide) (fun _ _ => e30) w_methodLink_RainCover_469 w_sameMethod_RainCover_Crop_RainCover_Crop_wilts__I_I w_instanceMethod_RainCover_Maize_wilts__I_I w_selects_RainCover_Maize_RainCover_Crop_wilts__I_I_RainCover_Maize_wilts__I_I (Or.inr ⟨w_instanceMethod_RainCover_Crop_wilts__I_I, _, _, _, w_code_RainCover_Crop_wilts__I_I⟩) ⟨by decide, by decide, show _ = some 1 from by decide +kernel⟩ ⟨⟨by decide, by decide⟩, ⟨by decide, by decide⟩⟩ (Nat.le_of_ble_eq_true rfl) J26
                  · exact a_nb
        refine a_swld (vs := [0, 1]) 94 dX11_act_51 (by decide) (by decide) (List.forall_mem_cons.mpr ⟨c13, List.forall_mem_cons.mpr ⟨c22, fun _ hh => absurd hh List.not_mem_nil⟩⟩) ?_
        refine a_aload_n dX11_act_94 rfl 0 rfl ?_
        refine a_getn kc12 15 dX11_act_95 (by decide) rfl w_fieldLink_RainCover_80 (fun v31 => ?_)
        refine a_opt ?_ (fun w32 => ?_)
        · refine a_iload_n dX11_act_98 rfl 3 rfl ?_
          exact a_none
        · refine a_iload_n dX11_act_98 rfl 3 rfl ?_
          have J34 : ∀ (q33 : Int32 × AH), AO l g M_X11_act false h0 102 [(0, .ref p0), (1, .int p1), (2, .int p2), (3, .int p3)] [.int q33.1] q33.2 0 0 rSi (some (q33.1, q33.2)) := by
            intro q33
            exact a_iret dX11_act_102 rfl rfl (by decide) (by decide)
          refine a_br (fun e35 => ?_) (fun e35 => ?_)
          · exact a_cU_Si (r := w32) (ci := 1) (as := [.int p3]) (st := []) dX11_act_99 (c_X1_yields l g h12 w32 p3) rfl km_X1_yields (hm_X1_yields) ⟨"RainCover$Crop", "yields", "(I)I"⟩ "RainCover$Crop" rfl (by decide) (fun _ _ => e35) w_methodLink_RainCover_472 w_sameMethod_RainCover_Crop_RainCover_Crop_yields__I_I w_instanceMethod_RainCover_Crop_yields__I_I w_selects_RainCover_Bean_RainCover_Crop_yields__I_I_RainCover_Crop_yields__I_I (Or.inl rfl) ⟨by decide, by decide, show _ = some 1 from by decide +kernel⟩ ⟨⟨by decide, by decide⟩, ⟨by decide, by decide⟩⟩ (Nat.le_of_ble_eq_true rfl) J34
          · refine a_br (fun e36 => ?_) (fun e36 => ?_)
            · exact a_cV_Si (r := w32) (ci := 2) (as := [.int p3]) (st := []) dX11_act_99 (c_X1_yields l g h12 w32 p3) rfl km_X1_yields (hm_X1_yields) rfl (by decide) rfl (fun _ _ => e36) w_methodLink_RainCover_472 w_instanceMethod_RainCover_Crop_yields__I_I w_selects_RainCover_Crop_RainCover_Crop_yields__I_I_RainCover_Crop_yields__I_I ⟨⟨by decide, by decide⟩, ⟨by decide, by decide⟩⟩ (Nat.le_of_ble_eq_true rfl) J34
            · refine a_br (fun e37 => ?_) (fun e37 => ?_)
              · exact a_cU_Si (r := w32) (ci := 5) (as := [.int p3]) (st := []) dX11_act_99 (c_X1_yields l g h12 w32 p3) rfl km_X1_yields (hm_X1_yields) ⟨"RainCover$Crop", "yields", "(I)I"⟩ "RainCover$Crop" rfl (by decide) (fun _ _ => e37) w_methodLink_RainCover_472 w_sameMethod_RainCover_Crop_RainCover_Crop_yields__I_I w_instanceMethod_RainCover_Crop_yields__I_I w_selects_RainCover_Grain_RainCover_Crop_yields__I_I_RainCover_Crop_yields__I_I (Or.inl rfl) ⟨by decide, by decide, show _ = some 1 from by decide +kernel⟩ ⟨⟨by decide, by decide⟩, ⟨by decide, by decide⟩⟩ (Nat.le_of_ble_eq_true rfl) J34
              · refine a_br (fun e38 => ?_) (fun e38 => ?_)
                · exact a_cU_Si (r := w32) (ci := 6) (as := [.int p3]) (st := []) dX11_act_99 (c_X5_yields l g h12 w32 p3) rfl km_X5_yields (hm_X5_yields) ⟨"RainCover$Crop", "yields", "(I)I"⟩ "RainCover$Crop" rfl (by decide) (fun _ _ => e38) w_methodLink_RainCover_472 w_sameMethod_RainCover_Crop_RainCover_Crop_yields__I_I w_instanceMethod_RainCover_Maize_yields__I_I w_selects_RainCover_Maize_RainCover_Crop_yields__I_I_RainCover_Maize_yields__I_I (Or.inr ⟨w_instanceMethod_RainCover_Crop_yields__I_I, _, _, _, w_code_RainCover_Crop_yields__I_I⟩) ⟨by decide, by decide, show _ = some 1 from by decide +kernel⟩ ⟨⟨by decide, by decide⟩, ⟨by decide, by decide⟩⟩ (Nat.le_of_ble_eq_true rfl) J34
                · exact a_nb
theorem dX11_trace_0 : decode cX11_trace 0 = .ok (.aload_n 0, 1) := by decide +kernel
theorem dX11_trace_1 : decode cX11_trace 1 = .ok (.getfield 80, 3) := by decide +kernel
theorem dX11_trace_4 : decode cX11_trace 4 = .ok (.ifnull 25, 3) := by decide +kernel
theorem dX11_trace_7 : decode cX11_trace 7 = .ok (.iload_n 1, 1) := by decide +kernel
theorem dX11_trace_8 : decode cX11_trace 8 = .ok (.iconst 0, 1) := by decide +kernel
theorem dX11_trace_9 : decode cX11_trace 9 = .ok (.aload_n 0, 1) := by decide +kernel
theorem dX11_trace_10 : decode cX11_trace 10 = .ok (.getfield 80, 3) := by decide +kernel
theorem dX11_trace_13 : decode cX11_trace 13 = .ok (.getfield 463, 3) := by decide +kernel
theorem dX11_trace_16 : decode cX11_trace 16 = .ok (.bipush 20, 2) := by decide +kernel
theorem dX11_trace_18 : decode cX11_trace 18 = .ok (.invokestatic 340, 3) := by decide +kernel
theorem dX11_trace_21 : decode cX11_trace 21 = .ok (.iconst 1, 1) := by decide +kernel
theorem dX11_trace_22 : decode cX11_trace 22 = .ok (.isub, 1) := by decide +kernel
theorem dX11_trace_23 : decode cX11_trace 23 = .ok (.invokestatic 120, 3) := by decide +kernel
theorem dX11_trace_26 : decode cX11_trace 26 = .ok (.ifCond .ne 5, 3) := by decide +kernel
theorem dX11_trace_29 : decode cX11_trace 29 = .ok (.iconst (-1), 1) := by decide +kernel
theorem dX11_trace_30 : decode cX11_trace 30 = .ok (.ireturn, 1) := by decide +kernel
theorem dX11_trace_31 : decode cX11_trace 31 = .ok (.aload_n 0, 1) := by decide +kernel
theorem dX11_trace_32 : decode cX11_trace 32 = .ok (.getfield 80, 3) := by decide +kernel
theorem dX11_trace_35 : decode cX11_trace 35 = .ok (.getfield 475, 3) := by decide +kernel
theorem dX11_trace_38 : decode cX11_trace 38 = .ok (.iload_n 1, 1) := by decide +kernel
theorem dX11_trace_39 : decode cX11_trace 39 = .ok (.iaload, 1) := by decide +kernel
theorem dX11_trace_40 : decode cX11_trace 40 = .ok (.ireturn, 1) := by decide +kernel
abbrev M_X11_trace : MI := (RX11, cX11_trace, 2, (some .int), ({ frames := 1, cells := 0, slots := 0, locals := 22 } : Room), 0, 0, false)
def f_X11_trace (h : AH) (p0 : Nat) (p1 : Int32) : Option Int32 := if kd h p0 = 12 + 1 then (xgn h p0 12 15).bind fun v1 => v1.elim (some (-1)) fun w2 => (xgn h p0 12 15).bind fun v3 => v3.elim (none) fun w4 => (xgc h w4 3).bind fun v5 => (f_X11_within h p1 0 ((if 20 < v5 then 20 else v5) - 1)).bind fun v6 => (if v6 = 0 then some (-1) else (xgn h p0 12 15).bind fun v8 => v8.elim (none) fun w9 => (xgcr h w9 2).bind fun v10 => (xia h v10 p1).bind fun v11 => some v11) else none
theorem g_X11_trace {h : AH} {p0 : Nat} {p1 : Int32} {x : Int32} (e : f_X11_trace h p0 p1 = some x) : kd h p0 = 12 + 1 := by
  unfold f_X11_trace at e
  by_cases hk : kd h p0 = 12 + 1
  · exact hk
  · rw [if_neg hk] at e
    cases e
theorem km_X11_trace : KM yX11_trace M_X11_trace 1 := ⟨in_tb 1153 (by decide +kernel) rfl, in_tb 1 (by decide +kernel) rfl, by decide +kernel, rfl, rfl⟩
theorem hm_X11_trace : M_X11_trace.2.2.2.2.2.1 = 0 ∧ M_X11_trace.2.2.2.2.2.2.1 = 0 := ⟨rfl, rfl⟩
section
variable {l : Launch} {g : GG}
end
set_option maxRecDepth 100000 in
set_option maxHeartbeats 4000000 in
theorem c_X11_trace (l : Launch) (g : GG) (h : AH) (p0 : Nat) (p1 : Int32) : CN l g yX11_trace M_X11_trace false [.ref p0, .int p1] h ((rPi h)) (f_X11_trace h p0 p1) := by
  refine CN.of (by decide) rfl (fun hh => by first | rfl | cases hh) (Nat.le_of_ble_eq_true rfl) ?_
  unfold f_X11_trace
  refine a_gd (fun hkd => ?_)
  refine a_aload_n dX11_trace_0 rfl 0 rfl ?_
  refine a_getn kc12 15 dX11_trace_1 (by decide) rfl w_fieldLink_RainCover_80 (fun v1 => ?_)
  refine a_opt ?_ (fun w2 => ?_)
  · refine a_ifnullN 29 dX11_trace_4 (by decide) ?_
    refine a_iconst (v := (-1)) dX11_trace_29 (by decide) ?_
    exact a_iret dX11_trace_30 rfl rfl (by decide) (by decide)
  · refine a_ifnull dX11_trace_4 ?_
    refine a_iload_n dX11_trace_7 rfl 1 rfl ?_
    refine a_iconst (v := 0) dX11_trace_8 (by decide) ?_
    refine a_aload_n dX11_trace_9 rfl 0 rfl ?_
    refine a_getn kc12 15 dX11_trace_10 (by decide) rfl w_fieldLink_RainCover_80 (fun v3 => ?_)
    refine a_opt ?_ (fun w4 => ?_)
    · exact a_none
    · refine a_gc3 dX11_trace_13 w_fieldLink_RainCover_463 (fun v5 => ?_)
      refine a_bipush (v := 20) dX11_trace_16 (by decide) ?_
      refine a_mmin dX11_trace_18 w_methodLink_RainCover_340 w_static_java_lang_Math_min__II_I w_initialized_java_lang_Math w_code_java_lang_Math_min__II_I (by decide) (by decide) (by decide) (by decide) (Nat.le_of_ble_eq_true rfl) ?_
      refine a_iconst (v := 1) dX11_trace_21 (by decide) ?_
      refine a_isub dX11_trace_22 ?_
      refine a_cS_Pi (as := [.int p1, .int 0, .int ((if 20 < v5 then 20 else v5) - 1)]) (st := []) dX11_trace_23 (c_X11_within l g h p1 0 ((if 20 < v5 then 20 else v5) - 1)) rfl km_X11_within (hm_X11_within) w_methodLink_RainCover_120 w_static_RainCover_within__III_Z ⟨⟨by decide, by decide⟩, ⟨by decide, by decide⟩⟩ (Nat.le_of_ble_eq_true rfl) (fun v6 => ?_)
      refine a_if_ne 31 dX11_trace_26 (by decide) (fun c7 => ?_) (fun c7 => ?_)
      · refine a_iconst (v := (-1)) dX11_trace_29 (by decide) ?_
        exact a_iret dX11_trace_30 rfl rfl (by decide) (by decide)
      · refine a_aload_n dX11_trace_31 rfl 0 rfl ?_
        refine a_getn kc12 15 dX11_trace_32 (by decide) rfl w_fieldLink_RainCover_80 (fun v8 => ?_)
        refine a_opt ?_ (fun w9 => ?_)
        · exact a_none
        · refine a_gc2 dX11_trace_35 w_fieldLink_RainCover_475 (fun v10 => ?_)
          refine a_iload_n dX11_trace_38 rfl 1 rfl ?_
          refine a_iald dX11_trace_39 (fun v11 => ?_)
          exact a_iret dX11_trace_40 rfl rfl (by decide) (by decide)
theorem dX11_taken_0 : decode cX11_taken 0 = .ok (.iload_n 2, 1) := by decide +kernel
theorem dX11_taken_1 : decode cX11_taken 1 = .ok (.iconst 0, 1) := by decide +kernel
theorem dX11_taken_2 : decode cX11_taken 2 = .ok (.iconst 3, 1) := by decide +kernel
theorem dX11_taken_3 : decode cX11_taken 3 = .ok (.invokestatic 120, 3) := by decide +kernel
theorem dX11_taken_6 : decode cX11_taken 6 = .ok (.ifCond .ne 6, 3) := by decide +kernel
theorem dX11_taken_9 : decode cX11_taken 9 = .ok (.bipush (-2), 2) := by decide +kernel
theorem dX11_taken_11 : decode cX11_taken 11 = .ok (.ireturn, 1) := by decide +kernel
theorem dX11_taken_12 : decode cX11_taken 12 = .ok (.aload_n 0, 1) := by decide +kernel
theorem dX11_taken_13 : decode cX11_taken 13 = .ok (.iload_n 1, 1) := by decide +kernel
theorem dX11_taken_14 : decode cX11_taken 14 = .ok (.invokevirtual 254, 3) := by decide +kernel
theorem dX11_taken_17 : decode cX11_taken 17 = .ok (.ifCond .ne 6, 3) := by decide +kernel
theorem dX11_taken_20 : decode cX11_taken 20 = .ok (.bipush (-11), 2) := by decide +kernel
theorem dX11_taken_22 : decode cX11_taken 22 = .ok (.ireturn, 1) := by decide +kernel
theorem dX11_taken_23 : decode cX11_taken 23 = .ok (.aload_n 0, 1) := by decide +kernel
theorem dX11_taken_24 : decode cX11_taken 24 = .ok (.getfield 21, 3) := by decide +kernel
theorem dX11_taken_27 : decode cX11_taken 27 = .ok (.iload_n 1, 1) := by decide +kernel
theorem dX11_taken_28 : decode cX11_taken 28 = .ok (.invokevirtual 124, 3) := by decide +kernel
theorem dX11_taken_31 : decode cX11_taken 31 = .ok (.checkcast 233, 3) := by decide +kernel
theorem dX11_taken_34 : decode cX11_taken 34 = .ok (.getfield 312, 3) := by decide +kernel
theorem dX11_taken_37 : decode cX11_taken 37 = .ok (.astore_n 3, 1) := by decide +kernel
theorem dX11_taken_38 : decode cX11_taken 38 = .ok (.iload_n 2, 1) := by decide +kernel
theorem dX11_taken_39 : decode cX11_taken 39 = .ok (.tableswitch 52 1 3 #[25, 34, 43], 25) := by decide +kernel
theorem dX11_taken_64 : decode cX11_taken 64 = .ok (.aload_n 3, 1) := by decide +kernel
theorem dX11_taken_65 : decode cX11_taken 65 = .ok (.instanceof 242, 3) := by decide +kernel
theorem dX11_taken_68 : decode cX11_taken 68 = .ok (.istore 4, 2) := by decide +kernel
theorem dX11_taken_70 : decode cX11_taken 70 = .ok (.goto 24, 3) := by decide +kernel
theorem dX11_taken_73 : decode cX11_taken 73 = .ok (.aload_n 3, 1) := by decide +kernel
theorem dX11_taken_74 : decode cX11_taken 74 = .ok (.instanceof 245, 3) := by decide +kernel
theorem dX11_taken_77 : decode cX11_taken 77 = .ok (.istore 4, 2) := by decide +kernel
theorem dX11_taken_79 : decode cX11_taken 79 = .ok (.goto 15, 3) := by decide +kernel
theorem dX11_taken_82 : decode cX11_taken 82 = .ok (.aload_n 3, 1) := by decide +kernel
theorem dX11_taken_83 : decode cX11_taken 83 = .ok (.instanceof 248, 3) := by decide +kernel
theorem dX11_taken_86 : decode cX11_taken 86 = .ok (.istore 4, 2) := by decide +kernel
theorem dX11_taken_88 : decode cX11_taken 88 = .ok (.goto 6, 3) := by decide +kernel
theorem dX11_taken_91 : decode cX11_taken 91 = .ok (.iconst 1, 1) := by decide +kernel
theorem dX11_taken_92 : decode cX11_taken 92 = .ok (.istore 4, 2) := by decide +kernel
theorem dX11_taken_94 : decode cX11_taken 94 = .ok (.iload 4, 2) := by decide +kernel
theorem dX11_taken_96 : decode cX11_taken 96 = .ok (.ifCond .eq 10, 3) := by decide +kernel
theorem dX11_taken_99 : decode cX11_taken 99 = .ok (.aload_n 3, 1) := by decide +kernel
theorem dX11_taken_100 : decode cX11_taken 100 = .ok (.invokevirtual 315, 3) := by decide +kernel
theorem dX11_taken_103 : decode cX11_taken 103 = .ok (.goto 5, 3) := by decide +kernel
theorem dX11_taken_106 : decode cX11_taken 106 = .ok (.bipush (-13), 2) := by decide +kernel
theorem dX11_taken_108 : decode cX11_taken 108 = .ok (.ireturn, 1) := by decide +kernel
abbrev M_X11_taken : MI := (RX11, cX11_taken, 5, (some .int), ({ frames := 3, cells := 0, slots := 0, locals := 64 } : Room), 0, 0, false)
def f_X11_taken_b94 (h : AH) (x3 : Nat) (x4 : Int32) : Option Int32 := (if x4 = 0 then some (-13) else (if kd h x3 = 2 then f_X0_kind h x3 else if kd h x3 = 3 then f_X1_kind h x3 else if kd h x3 = 6 then f_X4_kind h x3 else if kd h x3 = 7 then f_X5_kind h x3 else none).bind fun v15 => some v15)
def f_X11_taken (h : AH) (p0 : Nat) (p1 : Int32) (p2 : Int32) : Option Int32 := if kd h p0 = 12 + 1 then (f_X11_within h p2 0 3).bind fun v1 => (if v1 = 0 then some (-2) else (f_X11_isFarm h p0 p1).bind fun v3 => (if v3 = 0 then some (-11) else (xgr h p0 12 2).bind fun v5 => (f_Jx4a65c_get_915e3 h v5 p1).bind fun v6 => (xcc h v6 3).bind fun _ => (xgr h v6 3 4).bind fun v7 => (if p2 = 1 then (xio h v7 5).bind fun v9 => f_X11_taken_b94 h v7 v9 else (if p2 = 2 then (xio h v7 6).bind fun v11 => f_X11_taken_b94 h v7 v11 else (if p2 = 3 then (xio h v7 1).bind fun v13 => f_X11_taken_b94 h v7 v13 else f_X11_taken_b94 h v7 1))))) else none
theorem g_X11_taken {h : AH} {p0 : Nat} {p1 : Int32} {p2 : Int32} {x : Int32} (e : f_X11_taken h p0 p1 p2 = some x) : kd h p0 = 12 + 1 := by
  unfold f_X11_taken at e
  by_cases hk : kd h p0 = 12 + 1
  · exact hk
  · rw [if_neg hk] at e
    cases e
theorem km_X11_taken : KM yX11_taken M_X11_taken 2 := ⟨in_tb 1157 (by decide +kernel) rfl, in_tb 1 (by decide +kernel) rfl, by decide +kernel, rfl, rfl⟩
theorem hm_X11_taken : M_X11_taken.2.2.2.2.2.1 = 0 ∧ M_X11_taken.2.2.2.2.2.2.1 = 0 := ⟨rfl, rfl⟩
section
variable {l : Launch} {g : GG}
set_option maxRecDepth 100000 in
set_option maxHeartbeats 4000000 in
theorem t_X11_taken_b94 (h : AH) (x3 : Nat) (x4 : Int32) : AO l g M_X11_taken false h 94 [(3, .ref x3), (4, .int x4)] [] h 0 0 (rPi h) (f_X11_taken_b94 h  x3 x4) := by
  unfold f_X11_taken_b94
  refine a_iload dX11_taken_94 1 rfl ?_
  refine a_if_eq 106 dX11_taken_96 (by decide) (fun c14 => ?_) (fun c14 => ?_)
  · refine a_bipush (v := (-13)) dX11_taken_106 (by decide) ?_
    exact a_iret dX11_taken_108 rfl rfl (by decide) (by decide)
  · refine a_aload_n dX11_taken_99 rfl 0 rfl ?_
    have J16 : ∀ (v15 : Int32), AO l g M_X11_taken false h 103 [(3, .ref x3), (4, .int x4)] [.int v15] h 0 0 (rPi h) (some v15) := by
      intro v15
      refine a_goto 108 dX11_taken_103 (by decide) ?_
      exact a_iret dX11_taken_108 rfl rfl (by decide) (by decide)
    refine a_br (fun e17 => ?_) (fun e17 => ?_)
    · exact a_cU_Pi (r := x3) (ci := 1) (as := []) (st := []) dX11_taken_100 (c_X0_kind l g h x3) rfl km_X0_kind (hm_X0_kind) ⟨"RainCover$Crop", "kind", "()I"⟩ "RainCover$Crop" rfl (by decide) (fun _ _ => e17) w_methodLink_RainCover_315 w_sameMethod_RainCover_Crop_RainCover_Crop_kind___I w_instanceMethod_RainCover_Bean_kind___I w_selects_RainCover_Bean_RainCover_Crop_kind___I_RainCover_Bean_kind___I (Or.inr ⟨w_instanceMethod_RainCover_Crop_kind___I, _, _, _, w_code_RainCover_Crop_kind___I⟩) ⟨by decide, by decide, show _ = some 0 from by decide +kernel⟩ ⟨⟨by decide, by decide⟩, ⟨by decide, by decide⟩⟩ (Nat.le_of_ble_eq_true rfl) J16
    · refine a_br (fun e18 => ?_) (fun e18 => ?_)
      · exact a_cV_Pi (r := x3) (ci := 2) (as := []) (st := []) dX11_taken_100 (c_X1_kind l g h x3) rfl km_X1_kind (hm_X1_kind) rfl (by decide) rfl (fun _ _ => e18) w_methodLink_RainCover_315 w_instanceMethod_RainCover_Crop_kind___I w_selects_RainCover_Crop_RainCover_Crop_kind___I_RainCover_Crop_kind___I ⟨⟨by decide, by decide⟩, ⟨by decide, by decide⟩⟩ (Nat.le_of_ble_eq_true rfl) J16
      · refine a_br (fun e19 => ?_) (fun e19 => ?_)
        · exact a_cU_Pi (r := x3) (ci := 5) (as := []) (st := []) dX11_taken_100 (c_X4_kind l g h x3) rfl km_X4_kind (hm_X4_kind) ⟨"RainCover$Crop", "kind", "()I"⟩ "RainCover$Crop" rfl (by decide) (fun _ _ => e19) w_methodLink_RainCover_315 w_sameMethod_RainCover_Crop_RainCover_Crop_kind___I w_instanceMethod_RainCover_Grain_kind___I w_selects_RainCover_Grain_RainCover_Crop_kind___I_RainCover_Grain_kind___I (Or.inr ⟨w_instanceMethod_RainCover_Crop_kind___I, _, _, _, w_code_RainCover_Crop_kind___I⟩) ⟨by decide, by decide, show _ = some 0 from by decide +kernel⟩ ⟨⟨by decide, by decide⟩, ⟨by decide, by decide⟩⟩ (Nat.le_of_ble_eq_true rfl) J16
        · refine a_br (fun e20 => ?_) (fun e20 => ?_)
          · exact a_cU_Pi (r := x3) (ci := 6) (as := []) (st := []) dX11_taken_100 (c_X5_kind l g h x3) rfl km_X5_kind (hm_X5_kind) ⟨"RainCover$Crop", "kind", "()I"⟩ "RainCover$Crop" rfl (by decide) (fun _ _ => e20) w_methodLink_RainCover_315 w_sameMethod_RainCover_Crop_RainCover_Crop_kind___I w_instanceMethod_RainCover_Maize_kind___I w_selects_RainCover_Maize_RainCover_Crop_kind___I_RainCover_Maize_kind___I (Or.inr ⟨w_instanceMethod_RainCover_Crop_kind___I, _, _, _, w_code_RainCover_Crop_kind___I⟩) ⟨by decide, by decide, show _ = some 0 from by decide +kernel⟩ ⟨⟨by decide, by decide⟩, ⟨by decide, by decide⟩⟩ (Nat.le_of_ble_eq_true rfl) J16
          · exact a_nb
end
set_option maxRecDepth 100000 in
set_option maxHeartbeats 4000000 in
theorem c_X11_taken (l : Launch) (g : GG) (h : AH) (p0 : Nat) (p1 : Int32) (p2 : Int32) : CN l g yX11_taken M_X11_taken false [.ref p0, .int p1, .int p2] h ((rPi h)) (f_X11_taken h p0 p1 p2) := by
  refine CN.of (by decide) rfl (fun hh => by first | rfl | cases hh) (Nat.le_of_ble_eq_true rfl) ?_
  unfold f_X11_taken
  refine a_gd (fun hkd => ?_)
  refine a_iload_n dX11_taken_0 rfl 2 rfl ?_
  refine a_iconst (v := 0) dX11_taken_1 (by decide) ?_
  refine a_iconst (v := 3) dX11_taken_2 (by decide) ?_
  refine a_cS_Pi (as := [.int p2, .int 0, .int 3]) (st := []) dX11_taken_3 (c_X11_within l g h p2 0 3) rfl km_X11_within (hm_X11_within) w_methodLink_RainCover_120 w_static_RainCover_within__III_Z ⟨⟨by decide, by decide⟩, ⟨by decide, by decide⟩⟩ (Nat.le_of_ble_eq_true rfl) (fun v1 => ?_)
  refine a_if_ne 12 dX11_taken_6 (by decide) (fun c2 => ?_) (fun c2 => ?_)
  · refine a_bipush (v := (-2)) dX11_taken_9 (by decide) ?_
    exact a_iret dX11_taken_11 rfl rfl (by decide) (by decide)
  · refine a_aload_n dX11_taken_12 rfl 0 rfl ?_
    refine a_iload_n dX11_taken_13 rfl 1 rfl ?_
    refine a_cV_Pi (r := p0) (ci := 12) (as := [.int p1]) (st := []) dX11_taken_14 (c_X11_isFarm l g h p0 p1) rfl km_X11_isFarm (hm_X11_isFarm) rfl (by decide) rfl (fun _ ee => g_X11_isFarm ee) w_methodLink_RainCover_254 w_instanceMethod_RainCover_isFarm__I_Z w_selects_RainCover_RainCover_isFarm__I_Z_RainCover_isFarm__I_Z ⟨⟨by decide, by decide⟩, ⟨by decide, by decide⟩⟩ (Nat.le_of_ble_eq_true rfl) (fun v3 => ?_)
    refine a_if_ne 23 dX11_taken_17 (by decide) (fun c4 => ?_) (fun c4 => ?_)
    · refine a_bipush (v := (-11)) dX11_taken_20 (by decide) ?_
      exact a_iret dX11_taken_22 rfl rfl (by decide) (by decide)
    · refine a_aload_n dX11_taken_23 rfl 0 rfl ?_
      refine a_getr kc12 2 dX11_taken_24 (by decide) rfl w_fieldLink_RainCover_21 (fun v5 => ?_)
      refine a_iload_n dX11_taken_27 rfl 1 rfl ?_
      refine a_cV_Pr (r := v5) (ci := 0) (as := [.int p1]) (st := []) dX11_taken_28 (c_Jx4a65c_get_915e3 l g h v5 p1) rfl km_Jx4a65c_get_915e3 (hm_Jx4a65c_get_915e3) rfl (by decide) rfl (fun _ ee => g_Jx4a65c_get_915e3 ee) w_methodLink_RainCover_124 w_instanceMethod_java_util_ArrayList_get__I_Ljava_lang_Object_ w_selects_java_util_ArrayList_java_util_ArrayList_get__I_Ljava_lang_Object__java_util_ArrayList_get__I_Ljava_lang_Object_ ⟨⟨by decide, by decide⟩, ⟨by decide, by decide⟩⟩ (Nat.le_of_ble_eq_true rfl) (fun v6 => ?_)
      refine a_cast kc3 dX11_taken_31 w_classLink_RainCover_233 ?_
      refine a_getr kc3 4 dX11_taken_34 (by decide) rfl w_fieldLink_RainCover_312 (fun v7 => ?_)
      refine a_astore_n (lc2 := [(3, .ref v7), (0, .ref p0), (1, .int p1), (2, .int p2)]) dX11_taken_37 rfl (by decide) rfl ?_
      refine a_iload_n dX11_taken_38 rfl 3 rfl ?_
      refine a_swt (v := 1) 64 dX11_taken_39 (by decide) (by decide) (fun c8 => ?_) (fun c8 => ?_)
      · refine a_aload_n dX11_taken_64 rfl 0 rfl ?_
        refine a_inst kc5 (by decide) dX11_taken_65 w_classLink_RainCover_242 (fun v9 => ?_)
        refine a_istore (lc2 := [(4, .int v9), (3, .ref v7), (0, .ref p0), (1, .int p1), (2, .int p2)]) dX11_taken_68 (by decide) rfl ?_
        refine a_goto 94 dX11_taken_70 (by decide) ?_
        refine a_pick (lc2 := [(3, .ref v7), (4, .int v9)]) [1, 0] rfl ?_
        exact t_X11_taken_b94 h v7 v9
      refine a_swt (v := 2) 73 dX11_taken_39 (by decide) (by decide) (fun c10 => ?_) (fun c10 => ?_)
      · refine a_aload_n dX11_taken_73 rfl 0 rfl ?_
        refine a_inst kc6 (by decide) dX11_taken_74 w_classLink_RainCover_245 (fun v11 => ?_)
        refine a_istore (lc2 := [(4, .int v11), (3, .ref v7), (0, .ref p0), (1, .int p1), (2, .int p2)]) dX11_taken_77 (by decide) rfl ?_
        refine a_goto 94 dX11_taken_79 (by decide) ?_
        refine a_pick (lc2 := [(3, .ref v7), (4, .int v11)]) [1, 0] rfl ?_
        exact t_X11_taken_b94 h v7 v11
      refine a_swt (v := 3) 82 dX11_taken_39 (by decide) (by decide) (fun c12 => ?_) (fun c12 => ?_)
      · refine a_aload_n dX11_taken_82 rfl 0 rfl ?_
        refine a_inst kc1 (by decide) dX11_taken_83 w_classLink_RainCover_248 (fun v13 => ?_)
        refine a_istore (lc2 := [(4, .int v13), (3, .ref v7), (0, .ref p0), (1, .int p1), (2, .int p2)]) dX11_taken_86 (by decide) rfl ?_
        refine a_goto 94 dX11_taken_88 (by decide) ?_
        refine a_pick (lc2 := [(3, .ref v7), (4, .int v13)]) [1, 0] rfl ?_
        exact t_X11_taken_b94 h v7 v13
      refine a_swtd (vs := [1, 2, 3]) 91 dX11_taken_39 (by decide) (by decide) (List.forall_mem_cons.mpr ⟨c8, List.forall_mem_cons.mpr ⟨c10, List.forall_mem_cons.mpr ⟨c12, fun _ hh => absurd hh List.not_mem_nil⟩⟩⟩) ?_
      refine a_iconst (v := 1) dX11_taken_91 (by decide) ?_
      refine a_istore (lc2 := [(4, .int 1), (3, .ref v7), (0, .ref p0), (1, .int p1), (2, .int p2)]) dX11_taken_92 (by decide) rfl ?_
      refine a_pick (lc2 := [(3, .ref v7), (4, .int 1)]) [1, 0] rfl ?_
      exact t_X11_taken_b94 h v7 1
theorem dX11_count_0 : decode cX11_count 0 = .ok (.iload_n 1, 1) := by decide +kernel
theorem dX11_count_1 : decode cX11_count 1 = .ok (.tableswitch 164 0 11 #[63, 71, 76, 84, 92, 100, 108, 116, 124, 132, 137, 156], 63) := by decide +kernel
theorem dX11_count_64 : decode cX11_count 64 = .ok (.aload_n 0, 1) := by decide +kernel
theorem dX11_count_65 : decode cX11_count 65 = .ok (.getfield 12, 3) := by decide +kernel
theorem dX11_count_68 : decode cX11_count 68 = .ok (.invokevirtual 104, 3) := by decide +kernel
theorem dX11_count_71 : decode cX11_count 71 = .ok (.ireturn, 1) := by decide +kernel
theorem dX11_count_72 : decode cX11_count 72 = .ok (.aload_n 0, 1) := by decide +kernel
theorem dX11_count_73 : decode cX11_count 73 = .ok (.invokevirtual 179, 3) := by decide +kernel
theorem dX11_count_76 : decode cX11_count 76 = .ok (.ireturn, 1) := by decide +kernel
theorem dX11_count_77 : decode cX11_count 77 = .ok (.aload_n 0, 1) := by decide +kernel
theorem dX11_count_78 : decode cX11_count 78 = .ok (.getfield 18, 3) := by decide +kernel
theorem dX11_count_81 : decode cX11_count 81 = .ok (.invokevirtual 104, 3) := by decide +kernel
theorem dX11_count_84 : decode cX11_count 84 = .ok (.ireturn, 1) := by decide +kernel
theorem dX11_count_85 : decode cX11_count 85 = .ok (.aload_n 0, 1) := by decide +kernel
theorem dX11_count_86 : decode cX11_count 86 = .ok (.getfield 21, 3) := by decide +kernel
theorem dX11_count_89 : decode cX11_count 89 = .ok (.invokevirtual 104, 3) := by decide +kernel
theorem dX11_count_92 : decode cX11_count 92 = .ok (.ireturn, 1) := by decide +kernel
theorem dX11_count_93 : decode cX11_count 93 = .ok (.aload_n 0, 1) := by decide +kernel
theorem dX11_count_94 : decode cX11_count 94 = .ok (.getfield 53, 3) := by decide +kernel
theorem dX11_count_97 : decode cX11_count 97 = .ok (.getfield 306, 3) := by decide +kernel
theorem dX11_count_100 : decode cX11_count 100 = .ok (.ireturn, 1) := by decide +kernel
theorem dX11_count_101 : decode cX11_count 101 = .ok (.aload_n 0, 1) := by decide +kernel
theorem dX11_count_102 : decode cX11_count 102 = .ok (.getfield 57, 3) := by decide +kernel
theorem dX11_count_105 : decode cX11_count 105 = .ok (.getfield 306, 3) := by decide +kernel
theorem dX11_count_108 : decode cX11_count 108 = .ok (.ireturn, 1) := by decide +kernel
theorem dX11_count_109 : decode cX11_count 109 = .ok (.aload_n 0, 1) := by decide +kernel
theorem dX11_count_110 : decode cX11_count 110 = .ok (.getfield 24, 3) := by decide +kernel
theorem dX11_count_113 : decode cX11_count 113 = .ok (.invokevirtual 104, 3) := by decide +kernel
theorem dX11_count_116 : decode cX11_count 116 = .ok (.ireturn, 1) := by decide +kernel
theorem dX11_count_117 : decode cX11_count 117 = .ok (.aload_n 0, 1) := by decide +kernel
theorem dX11_count_118 : decode cX11_count 118 = .ok (.getfield 60, 3) := by decide +kernel
theorem dX11_count_121 : decode cX11_count 121 = .ok (.getfield 306, 3) := by decide +kernel
theorem dX11_count_124 : decode cX11_count 124 = .ok (.ireturn, 1) := by decide +kernel
theorem dX11_count_125 : decode cX11_count 125 = .ok (.aload_n 0, 1) := by decide +kernel
theorem dX11_count_126 : decode cX11_count 126 = .ok (.getfield 37, 3) := by decide +kernel
theorem dX11_count_129 : decode cX11_count 129 = .ok (.getfield 204, 3) := by decide +kernel
theorem dX11_count_132 : decode cX11_count 132 = .ok (.ireturn, 1) := by decide +kernel
theorem dX11_count_133 : decode cX11_count 133 = .ok (.aload_n 0, 1) := by decide +kernel
theorem dX11_count_134 : decode cX11_count 134 = .ok (.getfield 73, 3) := by decide +kernel
theorem dX11_count_137 : decode cX11_count 137 = .ok (.ireturn, 1) := by decide +kernel
theorem dX11_count_138 : decode cX11_count 138 = .ok (.aload_n 0, 1) := by decide +kernel
theorem dX11_count_139 : decode cX11_count 139 = .ok (.getfield 80, 3) := by decide +kernel
theorem dX11_count_142 : decode cX11_count 142 = .ok (.ifnonnull 7, 3) := by decide +kernel
theorem dX11_count_145 : decode cX11_count 145 = .ok (.iconst 0, 1) := by decide +kernel
theorem dX11_count_146 : decode cX11_count 146 = .ok (.goto 10, 3) := by decide +kernel
theorem dX11_count_149 : decode cX11_count 149 = .ok (.aload_n 0, 1) := by decide +kernel
theorem dX11_count_150 : decode cX11_count 150 = .ok (.getfield 80, 3) := by decide +kernel
theorem dX11_count_153 : decode cX11_count 153 = .ok (.getfield 463, 3) := by decide +kernel
theorem dX11_count_156 : decode cX11_count 156 = .ok (.ireturn, 1) := by decide +kernel
theorem dX11_count_157 : decode cX11_count 157 = .ok (.aload_n 0, 1) := by decide +kernel
theorem dX11_count_158 : decode cX11_count 158 = .ok (.getfield 63, 3) := by decide +kernel
theorem dX11_count_161 : decode cX11_count 161 = .ok (.getfield 306, 3) := by decide +kernel
theorem dX11_count_164 : decode cX11_count 164 = .ok (.ireturn, 1) := by decide +kernel
theorem dX11_count_165 : decode cX11_count 165 = .ok (.bipush (-2), 2) := by decide +kernel
theorem dX11_count_167 : decode cX11_count 167 = .ok (.ireturn, 1) := by decide +kernel
abbrev M_X11_count : MI := (RX11, cX11_count, 2, (some .int), ({ frames := 1, cells := 0, slots := 0, locals := 20 } : Room), 0, 0, false)
def f_X11_count (h : AH) (p0 : Nat) (p1 : Int32) : Option Int32 := if kd h p0 = 12 + 1 then (if p1 = 0 then (xgr h p0 12 0).bind fun v2 => (f_Jx4a65c_size_8abf5 h v2).bind fun v3 => some v3 else (if p1 = 1 then (f_X11_now h p0).bind fun v5 => some v5 else (if p1 = 2 then (xgr h p0 12 1).bind fun v7 => (f_Jx4a65c_size_8abf5 h v7).bind fun v8 => some v8 else (if p1 = 3 then (xgr h p0 12 2).bind fun v10 => (f_Jx4a65c_size_8abf5 h v10).bind fun v11 => some v11 else (if p1 = 4 then (xgr h p0 12 8).bind fun v13 => (xgi h v13 8 3).bind fun v14 => some v14 else (if p1 = 5 then (xgr h p0 12 9).bind fun v16 => (xgi h v16 8 3).bind fun v17 => some v17 else (if p1 = 6 then (xgr h p0 12 3).bind fun v19 => (f_Jx4a65c_size_8abf5 h v19).bind fun v20 => some v20 else (if p1 = 7 then (xgr h p0 12 10).bind fun v22 => (xgi h v22 8 3).bind fun v23 => some v23 else (if p1 = 8 then (xgr h p0 12 5).bind fun v25 => (xgi h v25 9 1).bind fun v26 => some v26 else (if p1 = 9 then (xgi h p0 12 13).bind fun v28 => some v28 else (if p1 = 10 then (xgn h p0 12 15).bind fun v30 => v30.elim (some 0) fun w31 => (xgn h p0 12 15).bind fun v32 => v32.elim (none) fun w33 => (xgc h w33 3).bind fun v34 => some v34 else (if p1 = 11 then (xgr h p0 12 11).bind fun v36 => (xgi h v36 8 3).bind fun v37 => some v37 else some (-2))))))))))))) else none
theorem g_X11_count {h : AH} {p0 : Nat} {p1 : Int32} {x : Int32} (e : f_X11_count h p0 p1 = some x) : kd h p0 = 12 + 1 := by
  unfold f_X11_count at e
  by_cases hk : kd h p0 = 12 + 1
  · exact hk
  · rw [if_neg hk] at e
    cases e
theorem km_X11_count : KM yX11_count M_X11_count 1 := ⟨in_tb 1161 (by decide +kernel) rfl, in_tb 1 (by decide +kernel) rfl, by decide +kernel, rfl, rfl⟩
theorem hm_X11_count : M_X11_count.2.2.2.2.2.1 = 0 ∧ M_X11_count.2.2.2.2.2.2.1 = 0 := ⟨rfl, rfl⟩
section
variable {l : Launch} {g : GG}
end
set_option maxRecDepth 100000 in
set_option maxHeartbeats 4000000 in
theorem c_X11_count (l : Launch) (g : GG) (h : AH) (p0 : Nat) (p1 : Int32) : CN l g yX11_count M_X11_count false [.ref p0, .int p1] h ((rPi h)) (f_X11_count h p0 p1) := by
  refine CN.of (by decide) rfl (fun hh => by first | rfl | cases hh) (Nat.le_of_ble_eq_true rfl) ?_
  unfold f_X11_count
  refine a_gd (fun hkd => ?_)
  refine a_iload_n dX11_count_0 rfl 1 rfl ?_
  refine a_swt (v := 0) 64 dX11_count_1 (by decide) (by decide) (fun c1 => ?_) (fun c1 => ?_)
  · refine a_aload_n dX11_count_64 rfl 0 rfl ?_
    refine a_getr kc12 0 dX11_count_65 (by decide) rfl w_fieldLink_RainCover_12 (fun v2 => ?_)
    refine a_cV_Pi (r := v2) (ci := 0) (as := []) (st := []) dX11_count_68 (c_Jx4a65c_size_8abf5 l g h v2) rfl km_Jx4a65c_size_8abf5 (hm_Jx4a65c_size_8abf5) rfl (by decide) rfl (fun _ ee => g_Jx4a65c_size_8abf5 ee) w_methodLink_RainCover_104 w_instanceMethod_java_util_ArrayList_size___I w_selects_java_util_ArrayList_java_util_ArrayList_size___I_java_util_ArrayList_size___I ⟨⟨by decide, by decide⟩, ⟨by decide, by decide⟩⟩ (Nat.le_of_ble_eq_true rfl) (fun v3 => ?_)
    exact a_iret dX11_count_71 rfl rfl (by decide) (by decide)
  refine a_swt (v := 1) 72 dX11_count_1 (by decide) (by decide) (fun c4 => ?_) (fun c4 => ?_)
  · refine a_aload_n dX11_count_72 rfl 0 rfl ?_
    refine a_cV_Pi (r := p0) (ci := 12) (as := []) (st := []) dX11_count_73 (c_X11_now l g h p0) rfl km_X11_now (hm_X11_now) rfl (by decide) rfl (fun _ ee => g_X11_now ee) w_methodLink_RainCover_179 w_instanceMethod_RainCover_now___I w_selects_RainCover_RainCover_now___I_RainCover_now___I ⟨⟨by decide, by decide⟩, ⟨by decide, by decide⟩⟩ (Nat.le_of_ble_eq_true rfl) (fun v5 => ?_)
    exact a_iret dX11_count_76 rfl rfl (by decide) (by decide)
  refine a_swt (v := 2) 77 dX11_count_1 (by decide) (by decide) (fun c6 => ?_) (fun c6 => ?_)
  · refine a_aload_n dX11_count_77 rfl 0 rfl ?_
    refine a_getr kc12 1 dX11_count_78 (by decide) rfl w_fieldLink_RainCover_18 (fun v7 => ?_)
    refine a_cV_Pi (r := v7) (ci := 0) (as := []) (st := []) dX11_count_81 (c_Jx4a65c_size_8abf5 l g h v7) rfl km_Jx4a65c_size_8abf5 (hm_Jx4a65c_size_8abf5) rfl (by decide) rfl (fun _ ee => g_Jx4a65c_size_8abf5 ee) w_methodLink_RainCover_104 w_instanceMethod_java_util_ArrayList_size___I w_selects_java_util_ArrayList_java_util_ArrayList_size___I_java_util_ArrayList_size___I ⟨⟨by decide, by decide⟩, ⟨by decide, by decide⟩⟩ (Nat.le_of_ble_eq_true rfl) (fun v8 => ?_)
    exact a_iret dX11_count_84 rfl rfl (by decide) (by decide)
  refine a_swt (v := 3) 85 dX11_count_1 (by decide) (by decide) (fun c9 => ?_) (fun c9 => ?_)
  · refine a_aload_n dX11_count_85 rfl 0 rfl ?_
    refine a_getr kc12 2 dX11_count_86 (by decide) rfl w_fieldLink_RainCover_21 (fun v10 => ?_)
    refine a_cV_Pi (r := v10) (ci := 0) (as := []) (st := []) dX11_count_89 (c_Jx4a65c_size_8abf5 l g h v10) rfl km_Jx4a65c_size_8abf5 (hm_Jx4a65c_size_8abf5) rfl (by decide) rfl (fun _ ee => g_Jx4a65c_size_8abf5 ee) w_methodLink_RainCover_104 w_instanceMethod_java_util_ArrayList_size___I w_selects_java_util_ArrayList_java_util_ArrayList_size___I_java_util_ArrayList_size___I ⟨⟨by decide, by decide⟩, ⟨by decide, by decide⟩⟩ (Nat.le_of_ble_eq_true rfl) (fun v11 => ?_)
    exact a_iret dX11_count_92 rfl rfl (by decide) (by decide)
  refine a_swt (v := 4) 93 dX11_count_1 (by decide) (by decide) (fun c12 => ?_) (fun c12 => ?_)
  · refine a_aload_n dX11_count_93 rfl 0 rfl ?_
    refine a_getr kc12 8 dX11_count_94 (by decide) rfl w_fieldLink_RainCover_53 (fun v13 => ?_)
    refine a_geti kc8 3 dX11_count_97 (by decide) rfl w_fieldLink_RainCover_306 (fun v14 => ?_)
    exact a_iret dX11_count_100 rfl rfl (by decide) (by decide)
  refine a_swt (v := 5) 101 dX11_count_1 (by decide) (by decide) (fun c15 => ?_) (fun c15 => ?_)
  · refine a_aload_n dX11_count_101 rfl 0 rfl ?_
    refine a_getr kc12 9 dX11_count_102 (by decide) rfl w_fieldLink_RainCover_57 (fun v16 => ?_)
    refine a_geti kc8 3 dX11_count_105 (by decide) rfl w_fieldLink_RainCover_306 (fun v17 => ?_)
    exact a_iret dX11_count_108 rfl rfl (by decide) (by decide)
  refine a_swt (v := 6) 109 dX11_count_1 (by decide) (by decide) (fun c18 => ?_) (fun c18 => ?_)
  · refine a_aload_n dX11_count_109 rfl 0 rfl ?_
    refine a_getr kc12 3 dX11_count_110 (by decide) rfl w_fieldLink_RainCover_24 (fun v19 => ?_)
    refine a_cV_Pi (r := v19) (ci := 0) (as := []) (st := []) dX11_count_113 (c_Jx4a65c_size_8abf5 l g h v19) rfl km_Jx4a65c_size_8abf5 (hm_Jx4a65c_size_8abf5) rfl (by decide) rfl (fun _ ee => g_Jx4a65c_size_8abf5 ee) w_methodLink_RainCover_104 w_instanceMethod_java_util_ArrayList_size___I w_selects_java_util_ArrayList_java_util_ArrayList_size___I_java_util_ArrayList_size___I ⟨⟨by decide, by decide⟩, ⟨by decide, by decide⟩⟩ (Nat.le_of_ble_eq_true rfl) (fun v20 => ?_)
    exact a_iret dX11_count_116 rfl rfl (by decide) (by decide)
  refine a_swt (v := 7) 117 dX11_count_1 (by decide) (by decide) (fun c21 => ?_) (fun c21 => ?_)
  · refine a_aload_n dX11_count_117 rfl 0 rfl ?_
    refine a_getr kc12 10 dX11_count_118 (by decide) rfl w_fieldLink_RainCover_60 (fun v22 => ?_)
    refine a_geti kc8 3 dX11_count_121 (by decide) rfl w_fieldLink_RainCover_306 (fun v23 => ?_)
    exact a_iret dX11_count_124 rfl rfl (by decide) (by decide)
  refine a_swt (v := 8) 125 dX11_count_1 (by decide) (by decide) (fun c24 => ?_) (fun c24 => ?_)
  · refine a_aload_n dX11_count_125 rfl 0 rfl ?_
    refine a_getr kc12 5 dX11_count_126 (by decide) rfl w_fieldLink_RainCover_37 (fun v25 => ?_)
    refine a_geti kc9 1 dX11_count_129 (by decide) rfl w_fieldLink_RainCover_204 (fun v26 => ?_)
    exact a_iret dX11_count_132 rfl rfl (by decide) (by decide)
  refine a_swt (v := 9) 133 dX11_count_1 (by decide) (by decide) (fun c27 => ?_) (fun c27 => ?_)
  · refine a_aload_n dX11_count_133 rfl 0 rfl ?_
    refine a_geti kc12 13 dX11_count_134 (by decide) rfl w_fieldLink_RainCover_73 (fun v28 => ?_)
    exact a_iret dX11_count_137 rfl rfl (by decide) (by decide)
  refine a_swt (v := 10) 138 dX11_count_1 (by decide) (by decide) (fun c29 => ?_) (fun c29 => ?_)
  · refine a_aload_n dX11_count_138 rfl 0 rfl ?_
    refine a_getn kc12 15 dX11_count_139 (by decide) rfl w_fieldLink_RainCover_80 (fun v30 => ?_)
    refine a_opt ?_ (fun w31 => ?_)
    · refine a_ifnonnullN dX11_count_142 ?_
      refine a_iconst (v := 0) dX11_count_145 (by decide) ?_
      refine a_goto 156 dX11_count_146 (by decide) ?_
      exact a_iret dX11_count_156 rfl rfl (by decide) (by decide)
    · refine a_ifnonnull 149 dX11_count_142 (by decide) ?_
      refine a_aload_n dX11_count_149 rfl 0 rfl ?_
      refine a_getn kc12 15 dX11_count_150 (by decide) rfl w_fieldLink_RainCover_80 (fun v32 => ?_)
      refine a_opt ?_ (fun w33 => ?_)
      · exact a_none
      · refine a_gc3 dX11_count_153 w_fieldLink_RainCover_463 (fun v34 => ?_)
        exact a_iret dX11_count_156 rfl rfl (by decide) (by decide)
  refine a_swt (v := 11) 157 dX11_count_1 (by decide) (by decide) (fun c35 => ?_) (fun c35 => ?_)
  · refine a_aload_n dX11_count_157 rfl 0 rfl ?_
    refine a_getr kc12 11 dX11_count_158 (by decide) rfl w_fieldLink_RainCover_63 (fun v36 => ?_)
    refine a_geti kc8 3 dX11_count_161 (by decide) rfl w_fieldLink_RainCover_306 (fun v37 => ?_)
    exact a_iret dX11_count_164 rfl rfl (by decide) (by decide)
  refine a_swtd (vs := [0, 1, 2, 3, 4, 5, 6, 7, 8, 9, 10, 11]) 165 dX11_count_1 (by decide) (by decide) (List.forall_mem_cons.mpr ⟨c1, List.forall_mem_cons.mpr ⟨c4, List.forall_mem_cons.mpr ⟨c6, List.forall_mem_cons.mpr ⟨c9, List.forall_mem_cons.mpr ⟨c12, List.forall_mem_cons.mpr ⟨c15, List.forall_mem_cons.mpr ⟨c18, List.forall_mem_cons.mpr ⟨c21, List.forall_mem_cons.mpr ⟨c24, List.forall_mem_cons.mpr ⟨c27, List.forall_mem_cons.mpr ⟨c29, List.forall_mem_cons.mpr ⟨c35, fun _ hh => absurd hh List.not_mem_nil⟩⟩⟩⟩⟩⟩⟩⟩⟩⟩⟩⟩) ?_
  refine a_bipush (v := (-2)) dX11_count_165 (by decide) ?_
  exact a_iret dX11_count_167 rfl rfl (by decide) (by decide)
theorem dJ7_fill_53178_0 : decode cJ7_fill_53178 0 = .ok (.iconst 0, 1) := by decide +kernel
theorem dJ7_fill_53178_1 : decode cJ7_fill_53178 1 = .ok (.istore_n 2, 1) := by decide +kernel
theorem dJ7_fill_53178_2 : decode cJ7_fill_53178 2 = .ok (.aload_n 0, 1) := by decide +kernel
theorem dJ7_fill_53178_3 : decode cJ7_fill_53178 3 = .ok (.arraylength, 1) := by decide +kernel
theorem dJ7_fill_53178_4 : decode cJ7_fill_53178 4 = .ok (.istore_n 3, 1) := by decide +kernel
theorem dJ7_fill_53178_5 : decode cJ7_fill_53178 5 = .ok (.iload_n 2, 1) := by decide +kernel
theorem dJ7_fill_53178_6 : decode cJ7_fill_53178 6 = .ok (.iload_n 3, 1) := by decide +kernel
theorem dJ7_fill_53178_7 : decode cJ7_fill_53178 7 = .ok (.if_icmp .ge 13, 3) := by decide +kernel
theorem dJ7_fill_53178_10 : decode cJ7_fill_53178 10 = .ok (.aload_n 0, 1) := by decide +kernel
theorem dJ7_fill_53178_11 : decode cJ7_fill_53178 11 = .ok (.iload_n 2, 1) := by decide +kernel
theorem dJ7_fill_53178_12 : decode cJ7_fill_53178 12 = .ok (.iload_n 1, 1) := by decide +kernel
theorem dJ7_fill_53178_13 : decode cJ7_fill_53178 13 = .ok (.iastore, 1) := by decide +kernel
theorem dJ7_fill_53178_14 : decode cJ7_fill_53178 14 = .ok (.iinc 2 1, 3) := by decide +kernel
theorem dJ7_fill_53178_17 : decode cJ7_fill_53178 17 = .ok (.goto (-12), 3) := by decide +kernel
theorem dJ7_fill_53178_20 : decode cJ7_fill_53178 20 = .ok (.return_, 1) := by decide +kernel
abbrev M_J7_fill_53178 : MI := (RJ7, cJ7_fill_53178, 4, none, ({ frames := 0, cells := 0, slots := 0, locals := 0 } : Room), 0, 0, false)
def f_J7_fill_53178_b5_body (N : Nat) (K5 : AH → Nat → Int32 → Int32 → Int32 → Option AH) (h : AH) (x0 : Nat) (x1 : Int32) (x2 : Int32) (x3 : Int32) : Option AH := (if x3 ≤ x2 then some h else (xis h x0 x2 x1).bind fun h3 => K5 h3 x0 x1 (x2 + 1) x3)
def f_J7_fill_53178_b5 (N : Nat) : Nat → AH → Nat → Int32 → Int32 → Int32 → Option AH
  | 0, _, _, _, _, _ => none
  | n + 1, h, x0, x1, x2, x3 => f_J7_fill_53178_b5_body N  (f_J7_fill_53178_b5 N  n) h x0 x1 x2 x3
def f_J7_fill_53178 (h0 : AH) (N : Nat) (p0 : Nat) (p1 : Int32) : Option AH := (xal h0 p0).bind fun v1 => f_J7_fill_53178_b5 N N h0 p0 p1 0 v1
theorem km_J7_fill_53178 : KM yJ7_fill_53178 M_J7_fill_53178 2 := ⟨in_tb 1172 (by decide +kernel) rfl, in_tb 13 (by decide +kernel) rfl, by decide +kernel, rfl, rfl⟩
theorem hm_J7_fill_53178 : M_J7_fill_53178.2.2.2.2.2.1 = 0 ∧ M_J7_fill_53178.2.2.2.2.2.2.1 = 0 := ⟨rfl, rfl⟩
section
variable {l : Launch} {g : GG}
set_option maxRecDepth 100000 in
set_option maxHeartbeats 4000000 in
theorem t_J7_fill_53178_b5_body (h0 : AH) (N : Nat) (K5 : AH → Nat → Int32 → Int32 → Int32 → Option AH) (hK5 : ∀ (z : AH) (z0 : Nat) (z1 : Int32) (z2 : Int32) (z3 : Int32), AO l g M_J7_fill_53178 false h0 5 [(0, .ref z0), (1, .int z1), (2, .int z2), (3, .int z3)] [] z 0 0 rSv (K5 z z0 z1 z2 z3)) (h : AH) (x0 : Nat) (x1 : Int32) (x2 : Int32) (x3 : Int32) : AO l g M_J7_fill_53178 false h0 5 [(0, .ref x0), (1, .int x1), (2, .int x2), (3, .int x3)] [] h 0 0 rSv (f_J7_fill_53178_b5_body N K5 h x0 x1 x2 x3) := by
  unfold f_J7_fill_53178_b5_body
  refine a_iload_n dJ7_fill_53178_5 rfl 2 rfl ?_
  refine a_iload_n dJ7_fill_53178_6 rfl 3 rfl ?_
  refine a_icmp_ge 20 dJ7_fill_53178_7 (by decide) (fun c2 => ?_) (fun c2 => ?_)
  · exact a_vret dJ7_fill_53178_20 rfl rfl (by decide) (by decide)
  · refine a_aload_n dJ7_fill_53178_10 rfl 0 rfl ?_
    refine a_iload_n dJ7_fill_53178_11 rfl 2 rfl ?_
    refine a_iload_n dJ7_fill_53178_12 rfl 1 rfl ?_
    refine a_iast dJ7_fill_53178_13 (fun h3 => ?_)
    refine a_iinc (q := 2) (v := (x2 + 1)) (lc2 := [(2, .int (x2 + 1)), (0, .ref x0), (1, .int x1), (3, .int x3)]) dJ7_fill_53178_14 rfl rfl (by decide) rfl ?_
    refine a_goto 5 dJ7_fill_53178_17 (by decide) ?_
    refine a_pick (lc2 := [(0, .ref x0), (1, .int x1), (2, .int (x2 + 1)), (3, .int x3)]) [1, 2, 0, 3] rfl ?_
    exact hK5 h3 x0 x1 (x2 + 1) x3
set_option maxRecDepth 100000 in
set_option maxHeartbeats 4000000 in
theorem t_J7_fill_53178_b5 (h0 : AH) (N : Nat) : ∀ (n : Nat) (h : AH) (x0 : Nat) (x1 : Int32) (x2 : Int32) (x3 : Int32) , AO l g M_J7_fill_53178 false h0 5 [(0, .ref x0), (1, .int x1), (2, .int x2), (3, .int x3)] [] h 0 0 rSv (f_J7_fill_53178_b5 N  n h x0 x1 x2 x3) := by
  intro n
  induction n with
  | zero => intro h x0 x1 x2 x3; exact a_eq rfl a_none
  | succ n ih => intro h x0 x1 x2 x3; exact a_eq rfl (t_J7_fill_53178_b5_body h0 N  (f_J7_fill_53178_b5 N  n) ih h x0 x1 x2 x3)
end
set_option maxRecDepth 100000 in
set_option maxHeartbeats 4000000 in
theorem c_J7_fill_53178 (l : Launch) (g : GG) (h0 : AH) (N : Nat) (p0 : Nat) (p1 : Int32) : CN l g yJ7_fill_53178 M_J7_fill_53178 false [.ref p0, .int p1] h0 rSv (f_J7_fill_53178 h0 N p0 p1) := by
  refine CN.of (by decide) rfl (fun hh => by first | rfl | cases hh) (Nat.le_of_ble_eq_true rfl) ?_
  unfold f_J7_fill_53178
  refine a_iconst (v := 0) dJ7_fill_53178_0 (by decide) ?_
  refine a_istore_n (lc2 := [(2, .int 0), (0, .ref p0), (1, .int p1)]) dJ7_fill_53178_1 rfl (by decide) rfl ?_
  refine a_aload_n dJ7_fill_53178_2 rfl 1 rfl ?_
  refine a_alen dJ7_fill_53178_3 (fun v1 => ?_)
  refine a_istore_n (lc2 := [(3, .int v1), (2, .int 0), (0, .ref p0), (1, .int p1)]) dJ7_fill_53178_4 rfl (by decide) rfl ?_
  refine a_pick (lc2 := [(0, .ref p0), (1, .int p1), (2, .int 0), (3, .int v1)]) [2, 3, 1, 0] rfl ?_
  exact t_J7_fill_53178_b5 h0 N N h0 p0 p1 0 v1
theorem dX6_become_0 : decode cX6_become 0 = .ok (.aload_n 0, 1) := by decide +kernel
theorem dX6_become_1 : decode cX6_become 1 = .ok (.iload_n 1, 1) := by decide +kernel
theorem dX6_become_2 : decode cX6_become 2 = .ok (.putfield 9, 3) := by decide +kernel
theorem dX6_become_5 : decode cX6_become 5 = .ok (.aload_n 0, 1) := by decide +kernel
theorem dX6_become_6 : decode cX6_become 6 = .ok (.iload_n 2, 1) := by decide +kernel
theorem dX6_become_7 : decode cX6_become 7 = .ok (.putfield 13, 3) := by decide +kernel
theorem dX6_become_10 : decode cX6_become 10 = .ok (.aload_n 0, 1) := by decide +kernel
theorem dX6_become_11 : decode cX6_become 11 = .ok (.getfield 16, 3) := by decide +kernel
theorem dX6_become_14 : decode cX6_become 14 = .ok (.iconst 0, 1) := by decide +kernel
theorem dX6_become_15 : decode cX6_become 15 = .ok (.invokestatic 26, 3) := by decide +kernel
theorem dX6_become_18 : decode cX6_become 18 = .ok (.return_, 1) := by decide +kernel
abbrev M_X6_become : MI := (RX6, cX6_become, 3, none, ({ frames := 1, cells := 0, slots := 0, locals := 23 } : Room), 0, 0, false)
def f_X6_become (h0 : AH) (N : Nat) (p0 : Nat) (p1 : Int32) (p2 : Int32) : Option AH := if kd h0 p0 = 7 + 1 then (xpi h0 p0 7 0 p1).bind fun h1 => (xpi h1 p0 7 1 p2).bind fun h2 => (xgr h2 p0 7 2).bind fun v3 => (f_J7_fill_53178 h2 N v3 0).bind fun q4 => some q4 else none
theorem g_X6_become {h0 : AH} {N : Nat} {p0 : Nat} {p1 : Int32} {p2 : Int32} {x : AH} (e : f_X6_become h0 N p0 p1 p2 = some x) : kd h0 p0 = 7 + 1 := by
  unfold f_X6_become at e
  by_cases hk : kd h0 p0 = 7 + 1
  · exact hk
  · rw [if_neg hk] at e
    cases e
theorem km_X6_become : KM yX6_become M_X6_become 2 := ⟨in_tb 1169 (by decide +kernel) rfl, in_tb 8 (by decide +kernel) rfl, by decide +kernel, rfl, rfl⟩
theorem hm_X6_become : M_X6_become.2.2.2.2.2.1 = 0 ∧ M_X6_become.2.2.2.2.2.2.1 = 0 := ⟨rfl, rfl⟩
section
variable {l : Launch} {g : GG}
end
set_option maxRecDepth 100000 in
set_option maxHeartbeats 4000000 in
theorem c_X6_become (l : Launch) (g : GG) (h0 : AH) (N : Nat) (p0 : Nat) (p1 : Int32) (p2 : Int32) : CN l g yX6_become M_X6_become false [.ref p0, .int p1, .int p2] h0 rSv (f_X6_become h0 N p0 p1 p2) := by
  refine CN.of (by decide) rfl (fun hh => by first | rfl | cases hh) (Nat.le_of_ble_eq_true rfl) ?_
  unfold f_X6_become
  refine a_gd (fun hkd => ?_)
  refine a_aload_n dX6_become_0 rfl 0 rfl ?_
  refine a_iload_n dX6_become_1 rfl 1 rfl ?_
  refine a_puti kc7 0 dX6_become_2 (by decide) rfl w_fieldLink_RainCover_Sheet_9 rfl rfl (fun h1 => ?_)
  refine a_aload_n dX6_become_5 rfl 0 rfl ?_
  refine a_iload_n dX6_become_6 rfl 2 rfl ?_
  refine a_puti kc7 1 dX6_become_7 (by decide) rfl w_fieldLink_RainCover_Sheet_13 rfl rfl (fun h2 => ?_)
  refine a_aload_n dX6_become_10 rfl 0 rfl ?_
  refine a_getr kc7 2 dX6_become_11 (by decide) rfl w_fieldLink_RainCover_Sheet_16 (fun v3 => ?_)
  refine a_iconst (v := 0) dX6_become_14 (by decide) ?_
  refine a_cS_Sv (as := [.ref v3, .int 0]) (st := []) dX6_become_15 (c_J7_fill_53178 l g h2 N v3 0) rfl km_J7_fill_53178 (hm_J7_fill_53178) w_methodLink_RainCover_Sheet_26 w_static_java_util_Arrays_fill___II_V ⟨⟨by decide, by decide⟩, ⟨by decide, by decide⟩⟩ (Nat.le_of_ble_eq_true rfl) (fun q4 => ?_)
  exact a_vret dX6_become_18 rfl rfl (by decide) (by decide)
theorem dX11_sheet_0 : decode cX11_sheet 0 = .ok (.aload_n 0, 1) := by decide +kernel
theorem dX11_sheet_1 : decode cX11_sheet 1 = .ok (.iload_n 1, 1) := by decide +kernel
theorem dX11_sheet_2 : decode cX11_sheet 2 = .ok (.invokevirtual 150, 3) := by decide +kernel
theorem dX11_sheet_5 : decode cX11_sheet 5 = .ok (.ifCond .ne 6, 3) := by decide +kernel
theorem dX11_sheet_8 : decode cX11_sheet 8 = .ok (.bipush (-2), 2) := by decide +kernel
theorem dX11_sheet_10 : decode cX11_sheet 10 = .ok (.ireturn, 1) := by decide +kernel
theorem dX11_sheet_11 : decode cX11_sheet 11 = .ok (.iload_n 2, 1) := by decide +kernel
theorem dX11_sheet_12 : decode cX11_sheet 12 = .ok (.iconst (-1), 1) := by decide +kernel
theorem dX11_sheet_13 : decode cX11_sheet 13 = .ok (.if_icmp .ne 16, 3) := by decide +kernel
theorem dX11_sheet_16 : decode cX11_sheet 16 = .ok (.aload_n 0, 1) := by decide +kernel
theorem dX11_sheet_17 : decode cX11_sheet 17 = .ok (.getfield 69, 3) := by decide +kernel
theorem dX11_sheet_20 : decode cX11_sheet 20 = .ok (.iload_n 1, 1) := by decide +kernel
theorem dX11_sheet_21 : decode cX11_sheet 21 = .ok (.aaload, 1) := by decide +kernel
theorem dX11_sheet_22 : decode cX11_sheet 22 = .ok (.iload_n 2, 1) := by decide +kernel
theorem dX11_sheet_23 : decode cX11_sheet 23 = .ok (.iconst 0, 1) := by decide +kernel
theorem dX11_sheet_24 : decode cX11_sheet 24 = .ok (.invokevirtual 478, 3) := by decide +kernel
theorem dX11_sheet_27 : decode cX11_sheet 27 = .ok (.iconst 1, 1) := by decide +kernel
theorem dX11_sheet_28 : decode cX11_sheet 28 = .ok (.ireturn, 1) := by decide +kernel
theorem dX11_sheet_29 : decode cX11_sheet 29 = .ok (.iload_n 2, 1) := by decide +kernel
theorem dX11_sheet_30 : decode cX11_sheet 30 = .ok (.invokestatic 153, 3) := by decide +kernel
theorem dX11_sheet_33 : decode cX11_sheet 33 = .ok (.ifCond .eq 9, 3) := by decide +kernel
theorem dX11_sheet_36 : decode cX11_sheet 36 = .ok (.iload_n 3, 1) := by decide +kernel
theorem dX11_sheet_37 : decode cX11_sheet 37 = .ok (.bipush 40, 2) := by decide +kernel
theorem dX11_sheet_39 : decode cX11_sheet 39 = .ok (.if_icmp .le 6, 3) := by decide +kernel
theorem dX11_sheet_42 : decode cX11_sheet 42 = .ok (.bipush (-2), 2) := by decide +kernel
theorem dX11_sheet_44 : decode cX11_sheet 44 = .ok (.ireturn, 1) := by decide +kernel
theorem dX11_sheet_45 : decode cX11_sheet 45 = .ok (.iload_n 3, 1) := by decide +kernel
theorem dX11_sheet_46 : decode cX11_sheet 46 = .ok (.ifCond .ge 6, 3) := by decide +kernel
theorem dX11_sheet_49 : decode cX11_sheet 49 = .ok (.bipush (-14), 2) := by decide +kernel
theorem dX11_sheet_51 : decode cX11_sheet 51 = .ok (.ireturn, 1) := by decide +kernel
theorem dX11_sheet_52 : decode cX11_sheet 52 = .ok (.aload_n 0, 1) := by decide +kernel
theorem dX11_sheet_53 : decode cX11_sheet 53 = .ok (.getfield 69, 3) := by decide +kernel
theorem dX11_sheet_56 : decode cX11_sheet 56 = .ok (.iload_n 1, 1) := by decide +kernel
theorem dX11_sheet_57 : decode cX11_sheet 57 = .ok (.aaload, 1) := by decide +kernel
theorem dX11_sheet_58 : decode cX11_sheet 58 = .ok (.iload_n 2, 1) := by decide +kernel
theorem dX11_sheet_59 : decode cX11_sheet 59 = .ok (.iload_n 3, 1) := by decide +kernel
theorem dX11_sheet_60 : decode cX11_sheet 60 = .ok (.invokevirtual 478, 3) := by decide +kernel
theorem dX11_sheet_63 : decode cX11_sheet 63 = .ok (.iconst 1, 1) := by decide +kernel
theorem dX11_sheet_64 : decode cX11_sheet 64 = .ok (.ireturn, 1) := by decide +kernel
abbrev M_X11_sheet : MI := (RX11, cX11_sheet, 4, (some .int), ({ frames := 2, cells := 0, slots := 0, locals := 45 } : Room), 0, 0, false)
def f_X11_sheet (h0 : AH) (N : Nat) (p0 : Nat) (p1 : Int32) (p2 : Int32) (p3 : Int32) : Option (Int32 × AH) := if kd h0 p0 = 12 + 1 then (f_X11_isSheet h0 p0 p1).bind fun v1 => (if v1 = 0 then some ((-2), h0) else (if p2 = (-1) then (xgr h0 p0 12 12).bind fun v4 => (xaa h0 v4 p1).bind fun v5 => (f_X6_become h0 N v5 p2 0).bind fun q6 => some (1, q6) else (f_X6_isSort h0 p2).bind fun v7 => (if v7 = 0 then some ((-2), h0) else (if p3 ≤ 40 then (if 0 ≤ p3 then (xgr h0 p0 12 12).bind fun v11 => (xaa h0 v11 p1).bind fun v12 => (f_X6_become h0 N v12 p2 p3).bind fun q13 => some (1, q13) else some ((-14), h0)) else some ((-2), h0))))) else none
theorem g_X11_sheet {h0 : AH} {N : Nat} {p0 : Nat} {p1 : Int32} {p2 : Int32} {p3 : Int32} {x : (Int32 × AH)} (e : f_X11_sheet h0 N p0 p1 p2 p3 = some x) : kd h0 p0 = 12 + 1 := by
  unfold f_X11_sheet at e
  by_cases hk : kd h0 p0 = 12 + 1
  · exact hk
  · rw [if_neg hk] at e
    cases e
theorem km_X11_sheet : KM yX11_sheet M_X11_sheet 3 := ⟨in_tb 1165 (by decide +kernel) rfl, in_tb 1 (by decide +kernel) rfl, by decide +kernel, rfl, rfl⟩
theorem hm_X11_sheet : M_X11_sheet.2.2.2.2.2.1 = 0 ∧ M_X11_sheet.2.2.2.2.2.2.1 = 0 := ⟨rfl, rfl⟩
section
variable {l : Launch} {g : GG}
end
set_option maxRecDepth 100000 in
set_option maxHeartbeats 4000000 in
theorem c_X11_sheet (l : Launch) (g : GG) (h0 : AH) (N : Nat) (p0 : Nat) (p1 : Int32) (p2 : Int32) (p3 : Int32) : CN l g yX11_sheet M_X11_sheet false [.ref p0, .int p1, .int p2, .int p3] h0 rSi (f_X11_sheet h0 N p0 p1 p2 p3) := by
  refine CN.of (by decide) rfl (fun hh => by first | rfl | cases hh) (Nat.le_of_ble_eq_true rfl) ?_
  unfold f_X11_sheet
  refine a_gd (fun hkd => ?_)
  refine a_aload_n dX11_sheet_0 rfl 0 rfl ?_
  refine a_iload_n dX11_sheet_1 rfl 1 rfl ?_
  refine a_cV_Pi (r := p0) (ci := 12) (as := [.int p1]) (st := []) dX11_sheet_2 (c_X11_isSheet l g h0 p0 p1) rfl km_X11_isSheet (hm_X11_isSheet) rfl (by decide) rfl (fun _ ee => g_X11_isSheet ee) w_methodLink_RainCover_150 w_instanceMethod_RainCover_isSheet__I_Z w_selects_RainCover_RainCover_isSheet__I_Z_RainCover_isSheet__I_Z ⟨⟨by decide, by decide⟩, ⟨by decide, by decide⟩⟩ (Nat.le_of_ble_eq_true rfl) (fun v1 => ?_)
  refine a_if_ne 11 dX11_sheet_5 (by decide) (fun c2 => ?_) (fun c2 => ?_)
  · refine a_bipush (v := (-2)) dX11_sheet_8 (by decide) ?_
    exact a_iret dX11_sheet_10 rfl rfl (by decide) (by decide)
  · refine a_iload_n dX11_sheet_11 rfl 2 rfl ?_
    refine a_iconst (v := (-1)) dX11_sheet_12 (by decide) ?_
    refine a_icmp_ne 29 dX11_sheet_13 (by decide) (fun c3 => ?_) (fun c3 => ?_)
    · refine a_aload_n dX11_sheet_16 rfl 0 rfl ?_
      refine a_getr kc12 12 dX11_sheet_17 (by decide) rfl w_fieldLink_RainCover_69 (fun v4 => ?_)
      refine a_iload_n dX11_sheet_20 rfl 1 rfl ?_
      refine a_aald dX11_sheet_21 (fun v5 => ?_)
      refine a_iload_n dX11_sheet_22 rfl 2 rfl ?_
      refine a_iconst (v := 0) dX11_sheet_23 (by decide) ?_
      refine a_cV_Sv (r := v5) (ci := 7) (as := [.int p2, .int 0]) (st := []) dX11_sheet_24 (c_X6_become l g h0 N v5 p2 0) rfl km_X6_become (hm_X6_become) rfl (by decide) rfl (fun _ ee => g_X6_become ee) w_methodLink_RainCover_478 w_instanceMethod_RainCover_Sheet_become__II_V w_selects_RainCover_Sheet_RainCover_Sheet_become__II_V_RainCover_Sheet_become__II_V ⟨⟨by decide, by decide⟩, ⟨by decide, by decide⟩⟩ (Nat.le_of_ble_eq_true rfl) (fun q6 => ?_)
      refine a_iconst (v := 1) dX11_sheet_27 (by decide) ?_
      exact a_iret dX11_sheet_28 rfl rfl (by decide) (by decide)
    · refine a_iload_n dX11_sheet_29 rfl 2 rfl ?_
      refine a_cS_Pi (as := [.int p2]) (st := []) dX11_sheet_30 (c_X6_isSort l g h0 p2) rfl km_X6_isSort (hm_X6_isSort) w_methodLink_RainCover_153 w_static_RainCover_Sheet_isSort__I_Z ⟨⟨by decide, by decide⟩, ⟨by decide, by decide⟩⟩ (Nat.le_of_ble_eq_true rfl) (fun v7 => ?_)
      refine a_if_eq 42 dX11_sheet_33 (by decide) (fun c8 => ?_) (fun c8 => ?_)
      · refine a_bipush (v := (-2)) dX11_sheet_42 (by decide) ?_
        exact a_iret dX11_sheet_44 rfl rfl (by decide) (by decide)
      · refine a_iload_n dX11_sheet_36 rfl 3 rfl ?_
        refine a_bipush (v := 40) dX11_sheet_37 (by decide) ?_
        refine a_icmp_le 45 dX11_sheet_39 (by decide) (fun c9 => ?_) (fun c9 => ?_)
        · refine a_iload_n dX11_sheet_45 rfl 3 rfl ?_
          refine a_if_ge 52 dX11_sheet_46 (by decide) (fun c10 => ?_) (fun c10 => ?_)
          · refine a_aload_n dX11_sheet_52 rfl 0 rfl ?_
            refine a_getr kc12 12 dX11_sheet_53 (by decide) rfl w_fieldLink_RainCover_69 (fun v11 => ?_)
            refine a_iload_n dX11_sheet_56 rfl 1 rfl ?_
            refine a_aald dX11_sheet_57 (fun v12 => ?_)
            refine a_iload_n dX11_sheet_58 rfl 2 rfl ?_
            refine a_iload_n dX11_sheet_59 rfl 3 rfl ?_
            refine a_cV_Sv (r := v12) (ci := 7) (as := [.int p2, .int p3]) (st := []) dX11_sheet_60 (c_X6_become l g h0 N v12 p2 p3) rfl km_X6_become (hm_X6_become) rfl (by decide) rfl (fun _ ee => g_X6_become ee) w_methodLink_RainCover_478 w_instanceMethod_RainCover_Sheet_become__II_V w_selects_RainCover_Sheet_RainCover_Sheet_become__II_V_RainCover_Sheet_become__II_V ⟨⟨by decide, by decide⟩, ⟨by decide, by decide⟩⟩ (Nat.le_of_ble_eq_true rfl) (fun q13 => ?_)
            refine a_iconst (v := 1) dX11_sheet_63 (by decide) ?_
            exact a_iret dX11_sheet_64 rfl rfl (by decide) (by decide)
          · refine a_bipush (v := (-14)) dX11_sheet_49 (by decide) ?_
            exact a_iret dX11_sheet_51 rfl rfl (by decide) (by decide)
        · refine a_bipush (v := (-2)) dX11_sheet_42 (by decide) ?_
          exact a_iret dX11_sheet_44 rfl rfl (by decide) (by decide)
theorem dX6_store_0 : decode cX6_store 0 = .ok (.aload_n 0, 1) := by decide +kernel
theorem dX6_store_1 : decode cX6_store 1 = .ok (.getfield 9, 3) := by decide +kernel
theorem dX6_store_4 : decode cX6_store 4 = .ok (.ifCond .ne 14, 3) := by decide +kernel
theorem dX6_store_7 : decode cX6_store 7 = .ok (.aload_n 0, 1) := by decide +kernel
theorem dX6_store_8 : decode cX6_store 8 = .ok (.getfield 16, 3) := by decide +kernel
theorem dX6_store_11 : decode cX6_store 11 = .ok (.iload_n 1, 1) := by decide +kernel
theorem dX6_store_12 : decode cX6_store 12 = .ok (.iload_n 2, 1) := by decide +kernel
theorem dX6_store_13 : decode cX6_store 13 = .ok (.i2b, 1) := by decide +kernel
theorem dX6_store_14 : decode cX6_store 14 = .ok (.iastore, 1) := by decide +kernel
theorem dX6_store_15 : decode cX6_store 15 = .ok (.goto 29, 3) := by decide +kernel
theorem dX6_store_18 : decode cX6_store 18 = .ok (.aload_n 0, 1) := by decide +kernel
theorem dX6_store_19 : decode cX6_store 19 = .ok (.getfield 9, 3) := by decide +kernel
theorem dX6_store_22 : decode cX6_store 22 = .ok (.iconst 1, 1) := by decide +kernel
theorem dX6_store_23 : decode cX6_store 23 = .ok (.if_icmp .ne 14, 3) := by decide +kernel
theorem dX6_store_26 : decode cX6_store 26 = .ok (.aload_n 0, 1) := by decide +kernel
theorem dX6_store_27 : decode cX6_store 27 = .ok (.getfield 16, 3) := by decide +kernel
theorem dX6_store_30 : decode cX6_store 30 = .ok (.iload_n 1, 1) := by decide +kernel
theorem dX6_store_31 : decode cX6_store 31 = .ok (.iload_n 2, 1) := by decide +kernel
theorem dX6_store_32 : decode cX6_store 32 = .ok (.i2s, 1) := by decide +kernel
theorem dX6_store_33 : decode cX6_store 33 = .ok (.iastore, 1) := by decide +kernel
theorem dX6_store_34 : decode cX6_store 34 = .ok (.goto 10, 3) := by decide +kernel
theorem dX6_store_37 : decode cX6_store 37 = .ok (.aload_n 0, 1) := by decide +kernel
theorem dX6_store_38 : decode cX6_store 38 = .ok (.getfield 16, 3) := by decide +kernel
theorem dX6_store_41 : decode cX6_store 41 = .ok (.iload_n 1, 1) := by decide +kernel
theorem dX6_store_42 : decode cX6_store 42 = .ok (.iload_n 2, 1) := by decide +kernel
theorem dX6_store_43 : decode cX6_store 43 = .ok (.iastore, 1) := by decide +kernel
theorem dX6_store_44 : decode cX6_store 44 = .ok (.return_, 1) := by decide +kernel
abbrev M_X6_store : MI := (RX6, cX6_store, 3, none, ({ frames := 0, cells := 0, slots := 0, locals := 0 } : Room), 0, 0, false)
def f_X6_store (h0 : AH) (p0 : Nat) (p1 : Int32) (p2 : Int32) : Option AH := if kd h0 p0 = 7 + 1 then (xgi h0 p0 7 0).bind fun v1 => (if v1 = 0 then (xgr h0 p0 7 2).bind fun v3 => (xis h0 v3 p1 (p2 : Int32).toInt8.toInt32).bind fun h4 => some h4 else (xgi h0 p0 7 0).bind fun v5 => (if v5 = 1 then (xgr h0 p0 7 2).bind fun v7 => (xis h0 v7 p1 (p2 : Int32).toInt16.toInt32).bind fun h8 => some h8 else (xgr h0 p0 7 2).bind fun v9 => (xis h0 v9 p1 p2).bind fun h10 => some h10)) else none
theorem g_X6_store {h0 : AH} {p0 : Nat} {p1 : Int32} {p2 : Int32} {x : AH} (e : f_X6_store h0 p0 p1 p2 = some x) : kd h0 p0 = 7 + 1 := by
  unfold f_X6_store at e
  by_cases hk : kd h0 p0 = 7 + 1
  · exact hk
  · rw [if_neg hk] at e
    cases e
theorem km_X6_store : KM yX6_store M_X6_store 2 := ⟨in_tb 1180 (by decide +kernel) rfl, in_tb 8 (by decide +kernel) rfl, by decide +kernel, rfl, rfl⟩
theorem hm_X6_store : M_X6_store.2.2.2.2.2.1 = 0 ∧ M_X6_store.2.2.2.2.2.2.1 = 0 := ⟨rfl, rfl⟩
section
variable {l : Launch} {g : GG}
end
set_option maxRecDepth 100000 in
set_option maxHeartbeats 4000000 in
theorem c_X6_store (l : Launch) (g : GG) (h0 : AH) (p0 : Nat) (p1 : Int32) (p2 : Int32) : CN l g yX6_store M_X6_store false [.ref p0, .int p1, .int p2] h0 rSv (f_X6_store h0 p0 p1 p2) := by
  refine CN.of (by decide) rfl (fun hh => by first | rfl | cases hh) (Nat.le_of_ble_eq_true rfl) ?_
  unfold f_X6_store
  refine a_gd (fun hkd => ?_)
  refine a_aload_n dX6_store_0 rfl 0 rfl ?_
  refine a_geti kc7 0 dX6_store_1 (by decide) rfl w_fieldLink_RainCover_Sheet_9 (fun v1 => ?_)
  refine a_if_ne 18 dX6_store_4 (by decide) (fun c2 => ?_) (fun c2 => ?_)
  · refine a_aload_n dX6_store_7 rfl 0 rfl ?_
    refine a_getr kc7 2 dX6_store_8 (by decide) rfl w_fieldLink_RainCover_Sheet_16 (fun v3 => ?_)
    refine a_iload_n dX6_store_11 rfl 1 rfl ?_
    refine a_iload_n dX6_store_12 rfl 2 rfl ?_
    refine a_i2b dX6_store_13 ?_
    refine a_iast dX6_store_14 (fun h4 => ?_)
    refine a_goto 44 dX6_store_15 (by decide) ?_
    exact a_vret dX6_store_44 rfl rfl (by decide) (by decide)
  · refine a_aload_n dX6_store_18 rfl 0 rfl ?_
    refine a_geti kc7 0 dX6_store_19 (by decide) rfl w_fieldLink_RainCover_Sheet_9 (fun v5 => ?_)
    refine a_iconst (v := 1) dX6_store_22 (by decide) ?_
    refine a_icmp_ne 37 dX6_store_23 (by decide) (fun c6 => ?_) (fun c6 => ?_)
    · refine a_aload_n dX6_store_26 rfl 0 rfl ?_
      refine a_getr kc7 2 dX6_store_27 (by decide) rfl w_fieldLink_RainCover_Sheet_16 (fun v7 => ?_)
      refine a_iload_n dX6_store_30 rfl 1 rfl ?_
      refine a_iload_n dX6_store_31 rfl 2 rfl ?_
      refine a_i2s dX6_store_32 ?_
      refine a_iast dX6_store_33 (fun h8 => ?_)
      refine a_goto 44 dX6_store_34 (by decide) ?_
      exact a_vret dX6_store_44 rfl rfl (by decide) (by decide)
    · refine a_aload_n dX6_store_37 rfl 0 rfl ?_
      refine a_getr kc7 2 dX6_store_38 (by decide) rfl w_fieldLink_RainCover_Sheet_16 (fun v9 => ?_)
      refine a_iload_n dX6_store_41 rfl 1 rfl ?_
      refine a_iload_n dX6_store_42 rfl 2 rfl ?_
      refine a_iast dX6_store_43 (fun h10 => ?_)
      exact a_vret dX6_store_44 rfl rfl (by decide) (by decide)
theorem dX11_cell_0 : decode cX11_cell 0 = .ok (.aload_n 0, 1) := by decide +kernel
theorem dX11_cell_1 : decode cX11_cell 1 = .ok (.iload_n 1, 1) := by decide +kernel
theorem dX11_cell_2 : decode cX11_cell 2 = .ok (.invokevirtual 150, 3) := by decide +kernel
theorem dX11_cell_5 : decode cX11_cell 5 = .ok (.ifCond .ne 6, 3) := by decide +kernel
theorem dX11_cell_8 : decode cX11_cell 8 = .ok (.bipush (-2), 2) := by decide +kernel
theorem dX11_cell_10 : decode cX11_cell 10 = .ok (.ireturn, 1) := by decide +kernel
theorem dX11_cell_11 : decode cX11_cell 11 = .ok (.aload_n 0, 1) := by decide +kernel
theorem dX11_cell_12 : decode cX11_cell 12 = .ok (.getfield 69, 3) := by decide +kernel
theorem dX11_cell_15 : decode cX11_cell 15 = .ok (.iload_n 1, 1) := by decide +kernel
theorem dX11_cell_16 : decode cX11_cell 16 = .ok (.aaload, 1) := by decide +kernel
theorem dX11_cell_17 : decode cX11_cell 17 = .ok (.astore 4, 2) := by decide +kernel
theorem dX11_cell_19 : decode cX11_cell 19 = .ok (.aload 4, 2) := by decide +kernel
theorem dX11_cell_21 : decode cX11_cell 21 = .ok (.invokevirtual 156, 3) := by decide +kernel
theorem dX11_cell_24 : decode cX11_cell 24 = .ok (.ifCond .eq 6, 3) := by decide +kernel
theorem dX11_cell_27 : decode cX11_cell 27 = .ok (.bipush (-11), 2) := by decide +kernel
theorem dX11_cell_29 : decode cX11_cell 29 = .ok (.ireturn, 1) := by decide +kernel
theorem dX11_cell_30 : decode cX11_cell 30 = .ok (.aload 4, 2) := by decide +kernel
theorem dX11_cell_32 : decode cX11_cell 32 = .ok (.iload_n 2, 1) := by decide +kernel
theorem dX11_cell_33 : decode cX11_cell 33 = .ok (.iconst 1, 1) := by decide +kernel
theorem dX11_cell_34 : decode cX11_cell 34 = .ok (.invokevirtual 163, 3) := by decide +kernel
theorem dX11_cell_37 : decode cX11_cell 37 = .ok (.ifCond .ne 6, 3) := by decide +kernel
theorem dX11_cell_40 : decode cX11_cell 40 = .ok (.bipush (-12), 2) := by decide +kernel
theorem dX11_cell_42 : decode cX11_cell 42 = .ok (.ireturn, 1) := by decide +kernel
theorem dX11_cell_43 : decode cX11_cell 43 = .ok (.aload 4, 2) := by decide +kernel
theorem dX11_cell_45 : decode cX11_cell 45 = .ok (.iload_n 2, 1) := by decide +kernel
theorem dX11_cell_46 : decode cX11_cell 46 = .ok (.iload_n 3, 1) := by decide +kernel
theorem dX11_cell_47 : decode cX11_cell 47 = .ok (.invokevirtual 481, 3) := by decide +kernel
theorem dX11_cell_50 : decode cX11_cell 50 = .ok (.iconst 1, 1) := by decide +kernel
theorem dX11_cell_51 : decode cX11_cell 51 = .ok (.ireturn, 1) := by decide +kernel
abbrev M_X11_cell : MI := (RX11, cX11_cell, 5, (some .int), ({ frames := 2, cells := 0, slots := 0, locals := 43 } : Room), 0, 0, false)
def f_X11_cell (h0 : AH) (p0 : Nat) (p1 : Int32) (p2 : Int32) (p3 : Int32) : Option (Int32 × AH) := if kd h0 p0 = 12 + 1 then (f_X11_isSheet h0 p0 p1).bind fun v1 => (if v1 = 0 then some ((-2), h0) else (xgr h0 p0 12 12).bind fun v3 => (xaa h0 v3 p1).bind fun v4 => (f_X6_isMissing h0 v4).bind fun v5 => (if v5 = 0 then (f_X6_hasItems h0 v4 p2 1).bind fun v7 => (if v7 = 0 then some ((-12), h0) else (f_X6_store h0 v4 p2 p3).bind fun q9 => some (1, q9)) else some ((-11), h0))) else none
theorem g_X11_cell {h0 : AH} {p0 : Nat} {p1 : Int32} {p2 : Int32} {p3 : Int32} {x : (Int32 × AH)} (e : f_X11_cell h0 p0 p1 p2 p3 = some x) : kd h0 p0 = 12 + 1 := by
  unfold f_X11_cell at e
  by_cases hk : kd h0 p0 = 12 + 1
  · exact hk
  · rw [if_neg hk] at e
    cases e
theorem km_X11_cell : KM yX11_cell M_X11_cell 3 := ⟨in_tb 1176 (by decide +kernel) rfl, in_tb 1 (by decide +kernel) rfl, by decide +kernel, rfl, rfl⟩
theorem hm_X11_cell : M_X11_cell.2.2.2.2.2.1 = 0 ∧ M_X11_cell.2.2.2.2.2.2.1 = 0 := ⟨rfl, rfl⟩
section
variable {l : Launch} {g : GG}
end
set_option maxRecDepth 100000 in
set_option maxHeartbeats 4000000 in
theorem c_X11_cell (l : Launch) (g : GG) (h0 : AH) (p0 : Nat) (p1 : Int32) (p2 : Int32) (p3 : Int32) : CN l g yX11_cell M_X11_cell false [.ref p0, .int p1, .int p2, .int p3] h0 rSi (f_X11_cell h0 p0 p1 p2 p3) := by
  refine CN.of (by decide) rfl (fun hh => by first | rfl | cases hh) (Nat.le_of_ble_eq_true rfl) ?_
  unfold f_X11_cell
  refine a_gd (fun hkd => ?_)
  refine a_aload_n dX11_cell_0 rfl 0 rfl ?_
  refine a_iload_n dX11_cell_1 rfl 1 rfl ?_
  refine a_cV_Pi (r := p0) (ci := 12) (as := [.int p1]) (st := []) dX11_cell_2 (c_X11_isSheet l g h0 p0 p1) rfl km_X11_isSheet (hm_X11_isSheet) rfl (by decide) rfl (fun _ ee => g_X11_isSheet ee) w_methodLink_RainCover_150 w_instanceMethod_RainCover_isSheet__I_Z w_selects_RainCover_RainCover_isSheet__I_Z_RainCover_isSheet__I_Z ⟨⟨by decide, by decide⟩, ⟨by decide, by decide⟩⟩ (Nat.le_of_ble_eq_true rfl) (fun v1 => ?_)
  refine a_if_ne 11 dX11_cell_5 (by decide) (fun c2 => ?_) (fun c2 => ?_)
  · refine a_bipush (v := (-2)) dX11_cell_8 (by decide) ?_
    exact a_iret dX11_cell_10 rfl rfl (by decide) (by decide)
  · refine a_aload_n dX11_cell_11 rfl 0 rfl ?_
    refine a_getr kc12 12 dX11_cell_12 (by decide) rfl w_fieldLink_RainCover_69 (fun v3 => ?_)
    refine a_iload_n dX11_cell_15 rfl 1 rfl ?_
    refine a_aald dX11_cell_16 (fun v4 => ?_)
    refine a_astore (lc2 := [(4, .ref v4), (0, .ref p0), (1, .int p1), (2, .int p2), (3, .int p3)]) dX11_cell_17 (by decide) rfl ?_
    refine a_aload dX11_cell_19 0 rfl ?_
    refine a_cV_Pi (r := v4) (ci := 7) (as := []) (st := []) dX11_cell_21 (c_X6_isMissing l g h0 v4) rfl km_X6_isMissing (hm_X6_isMissing) rfl (by decide) rfl (fun _ ee => g_X6_isMissing ee) w_methodLink_RainCover_156 w_instanceMethod_RainCover_Sheet_isMissing___Z w_selects_RainCover_Sheet_RainCover_Sheet_isMissing___Z_RainCover_Sheet_isMissing___Z ⟨⟨by decide, by decide⟩, ⟨by decide, by decide⟩⟩ (Nat.le_of_ble_eq_true rfl) (fun v5 => ?_)
    refine a_if_eq 30 dX11_cell_24 (by decide) (fun c6 => ?_) (fun c6 => ?_)
    · refine a_aload dX11_cell_30 0 rfl ?_
      refine a_iload_n dX11_cell_32 rfl 3 rfl ?_
      refine a_iconst (v := 1) dX11_cell_33 (by decide) ?_
      refine a_cV_Pi (r := v4) (ci := 7) (as := [.int p2, .int 1]) (st := []) dX11_cell_34 (c_X6_hasItems l g h0 v4 p2 1) rfl km_X6_hasItems (hm_X6_hasItems) rfl (by decide) rfl (fun _ ee => g_X6_hasItems ee) w_methodLink_RainCover_163 w_instanceMethod_RainCover_Sheet_hasItems__II_Z w_selects_RainCover_Sheet_RainCover_Sheet_hasItems__II_Z_RainCover_Sheet_hasItems__II_Z ⟨⟨by decide, by decide⟩, ⟨by decide, by decide⟩⟩ (Nat.le_of_ble_eq_true rfl) (fun v7 => ?_)
      refine a_if_ne 43 dX11_cell_37 (by decide) (fun c8 => ?_) (fun c8 => ?_)
      · refine a_bipush (v := (-12)) dX11_cell_40 (by decide) ?_
        exact a_iret dX11_cell_42 rfl rfl (by decide) (by decide)
      · refine a_aload dX11_cell_43 0 rfl ?_
        refine a_iload_n dX11_cell_45 rfl 3 rfl ?_
        refine a_iload_n dX11_cell_46 rfl 4 rfl ?_
        refine a_cV_Sv (r := v4) (ci := 7) (as := [.int p2, .int p3]) (st := []) dX11_cell_47 (c_X6_store l g h0 v4 p2 p3) rfl km_X6_store (hm_X6_store) rfl (by decide) rfl (fun _ ee => g_X6_store ee) w_methodLink_RainCover_481 w_instanceMethod_RainCover_Sheet_store__II_V w_selects_RainCover_Sheet_RainCover_Sheet_store__II_V_RainCover_Sheet_store__II_V ⟨⟨by decide, by decide⟩, ⟨by decide, by decide⟩⟩ (Nat.le_of_ble_eq_true rfl) (fun q9 => ?_)
        refine a_iconst (v := 1) dX11_cell_50 (by decide) ?_
        exact a_iret dX11_cell_51 rfl rfl (by decide) (by decide)
    · refine a_bipush (v := (-11)) dX11_cell_27 (by decide) ?_
      exact a_iret dX11_cell_29 rfl rfl (by decide) (by decide)
theorem dX11_copy_0 : decode cX11_copy 0 = .ok (.aload_n 0, 1) := by decide +kernel
theorem dX11_copy_1 : decode cX11_copy 1 = .ok (.iload_n 1, 1) := by decide +kernel
theorem dX11_copy_2 : decode cX11_copy 2 = .ok (.invokevirtual 150, 3) := by decide +kernel
theorem dX11_copy_5 : decode cX11_copy 5 = .ok (.ifCond .eq 11, 3) := by decide +kernel
theorem dX11_copy_8 : decode cX11_copy 8 = .ok (.aload_n 0, 1) := by decide +kernel
theorem dX11_copy_9 : decode cX11_copy 9 = .ok (.iload_n 3, 1) := by decide +kernel
theorem dX11_copy_10 : decode cX11_copy 10 = .ok (.invokevirtual 150, 3) := by decide +kernel
theorem dX11_copy_13 : decode cX11_copy 13 = .ok (.ifCond .ne 6, 3) := by decide +kernel
theorem dX11_copy_16 : decode cX11_copy 16 = .ok (.bipush (-2), 2) := by decide +kernel
theorem dX11_copy_18 : decode cX11_copy 18 = .ok (.ireturn, 1) := by decide +kernel
theorem dX11_copy_19 : decode cX11_copy 19 = .ok (.aload_n 0, 1) := by decide +kernel
theorem dX11_copy_20 : decode cX11_copy 20 = .ok (.getfield 69, 3) := by decide +kernel
theorem dX11_copy_23 : decode cX11_copy 23 = .ok (.iload_n 1, 1) := by decide +kernel
theorem dX11_copy_24 : decode cX11_copy 24 = .ok (.aaload, 1) := by decide +kernel
theorem dX11_copy_25 : decode cX11_copy 25 = .ok (.astore 6, 2) := by decide +kernel
theorem dX11_copy_27 : decode cX11_copy 27 = .ok (.aload_n 0, 1) := by decide +kernel
theorem dX11_copy_28 : decode cX11_copy 28 = .ok (.getfield 69, 3) := by decide +kernel
theorem dX11_copy_31 : decode cX11_copy 31 = .ok (.iload_n 3, 1) := by decide +kernel
theorem dX11_copy_32 : decode cX11_copy 32 = .ok (.aaload, 1) := by decide +kernel
theorem dX11_copy_33 : decode cX11_copy 33 = .ok (.astore 7, 2) := by decide +kernel
theorem dX11_copy_35 : decode cX11_copy 35 = .ok (.aload 6, 2) := by decide +kernel
theorem dX11_copy_37 : decode cX11_copy 37 = .ok (.invokevirtual 156, 3) := by decide +kernel
theorem dX11_copy_40 : decode cX11_copy 40 = .ok (.ifCond .ne 11, 3) := by decide +kernel
theorem dX11_copy_43 : decode cX11_copy 43 = .ok (.aload 7, 2) := by decide +kernel
theorem dX11_copy_45 : decode cX11_copy 45 = .ok (.invokevirtual 156, 3) := by decide +kernel
theorem dX11_copy_48 : decode cX11_copy 48 = .ok (.ifCond .eq 6, 3) := by decide +kernel
theorem dX11_copy_51 : decode cX11_copy 51 = .ok (.bipush (-11), 2) := by decide +kernel
theorem dX11_copy_53 : decode cX11_copy 53 = .ok (.ireturn, 1) := by decide +kernel
theorem dX11_copy_54 : decode cX11_copy 54 = .ok (.aload 6, 2) := by decide +kernel
theorem dX11_copy_56 : decode cX11_copy 56 = .ok (.getfield 160, 3) := by decide +kernel
theorem dX11_copy_59 : decode cX11_copy 59 = .ok (.aload 7, 2) := by decide +kernel
theorem dX11_copy_61 : decode cX11_copy 61 = .ok (.getfield 160, 3) := by decide +kernel
theorem dX11_copy_64 : decode cX11_copy 64 = .ok (.if_icmp .eq 6, 3) := by decide +kernel
theorem dX11_copy_67 : decode cX11_copy 67 = .ok (.bipush (-13), 2) := by decide +kernel
theorem dX11_copy_69 : decode cX11_copy 69 = .ok (.ireturn, 1) := by decide +kernel
theorem dX11_copy_70 : decode cX11_copy 70 = .ok (.aload 6, 2) := by decide +kernel
theorem dX11_copy_72 : decode cX11_copy 72 = .ok (.iload_n 2, 1) := by decide +kernel
theorem dX11_copy_73 : decode cX11_copy 73 = .ok (.iload 5, 2) := by decide +kernel
theorem dX11_copy_75 : decode cX11_copy 75 = .ok (.invokevirtual 163, 3) := by decide +kernel
theorem dX11_copy_78 : decode cX11_copy 78 = .ok (.ifCond .eq 15, 3) := by decide +kernel
theorem dX11_copy_81 : decode cX11_copy 81 = .ok (.aload 7, 2) := by decide +kernel
theorem dX11_copy_83 : decode cX11_copy 83 = .ok (.iload 4, 2) := by decide +kernel
theorem dX11_copy_85 : decode cX11_copy 85 = .ok (.iload 5, 2) := by decide +kernel
theorem dX11_copy_87 : decode cX11_copy 87 = .ok (.invokevirtual 163, 3) := by decide +kernel
theorem dX11_copy_90 : decode cX11_copy 90 = .ok (.ifCond .ne 6, 3) := by decide +kernel
theorem dX11_copy_93 : decode cX11_copy 93 = .ok (.bipush (-12), 2) := by decide +kernel
theorem dX11_copy_95 : decode cX11_copy 95 = .ok (.ireturn, 1) := by decide +kernel
theorem dX11_copy_96 : decode cX11_copy 96 = .ok (.aload 6, 2) := by decide +kernel
theorem dX11_copy_98 : decode cX11_copy 98 = .ok (.getfield 166, 3) := by decide +kernel
theorem dX11_copy_101 : decode cX11_copy 101 = .ok (.iload_n 2, 1) := by decide +kernel
theorem dX11_copy_102 : decode cX11_copy 102 = .ok (.aload 7, 2) := by decide +kernel
theorem dX11_copy_104 : decode cX11_copy 104 = .ok (.getfield 166, 3) := by decide +kernel
theorem dX11_copy_107 : decode cX11_copy 107 = .ok (.iload 4, 2) := by decide +kernel
theorem dX11_copy_109 : decode cX11_copy 109 = .ok (.iload 5, 2) := by decide +kernel
theorem dX11_copy_111 : decode cX11_copy 111 = .ok (.invokestatic 484, 3) := by decide +kernel
theorem dX11_copy_114 : decode cX11_copy 114 = .ok (.iload 5, 2) := by decide +kernel
theorem dX11_copy_116 : decode cX11_copy 116 = .ok (.ireturn, 1) := by decide +kernel
abbrev M_X11_copy : MI := (RX11, cX11_copy, 8, (some .int), ({ frames := 2, cells := 0, slots := 0, locals := 43 } : Room), 0, 0, false)
def f_X11_copy (h0 : AH) (p0 : Nat) (p1 : Int32) (p2 : Int32) (p3 : Int32) (p4 : Int32) (p5 : Int32) : Option (Int32 × AH) := if kd h0 p0 = 12 + 1 then (f_X11_isSheet h0 p0 p1).bind fun v1 => (if v1 = 0 then some ((-2), h0) else (f_X11_isSheet h0 p0 p3).bind fun v3 => (if v3 = 0 then some ((-2), h0) else (xgr h0 p0 12 12).bind fun v5 => (xaa h0 v5 p1).bind fun v6 => (xgr h0 p0 12 12).bind fun v7 => (xaa h0 v7 p3).bind fun v8 => (f_X6_isMissing h0 v6).bind fun v9 => (if v9 = 0 then (f_X6_isMissing h0 v8).bind fun v11 => (if v11 = 0 then (xgi h0 v6 7 0).bind fun v13 => (xgi h0 v8 7 0).bind fun v14 => (if v13 = v14 then (f_X6_hasItems h0 v6 p2 p5).bind fun v16 => (if v16 = 0 then some ((-12), h0) else (f_X6_hasItems h0 v8 p4 p5).bind fun v18 => (if v18 = 0 then some ((-12), h0) else (xgr h0 v6 7 2).bind fun v20 => (xgr h0 v8 7 2).bind fun v21 => (xcpi h0 v20 p2 v21 p4 p5).bind fun h22 => some (p5, h22))) else some ((-13), h0)) else some ((-11), h0)) else some ((-11), h0)))) else none
theorem g_X11_copy {h0 : AH} {p0 : Nat} {p1 : Int32} {p2 : Int32} {p3 : Int32} {p4 : Int32} {p5 : Int32} {x : (Int32 × AH)} (e : f_X11_copy h0 p0 p1 p2 p3 p4 p5 = some x) : kd h0 p0 = 12 + 1 := by
  unfold f_X11_copy at e
  by_cases hk : kd h0 p0 = 12 + 1
  · exact hk
  · rw [if_neg hk] at e
    cases e
theorem km_X11_copy : KM yX11_copy M_X11_copy 5 := ⟨in_tb 1184 (by decide +kernel) rfl, in_tb 1 (by decide +kernel) rfl, by decide +kernel, rfl, rfl⟩
theorem hm_X11_copy : M_X11_copy.2.2.2.2.2.1 = 0 ∧ M_X11_copy.2.2.2.2.2.2.1 = 0 := ⟨rfl, rfl⟩
section
variable {l : Launch} {g : GG}
end
set_option maxRecDepth 100000 in
set_option maxHeartbeats 4000000 in
theorem c_X11_copy (l : Launch) (g : GG) (h0 : AH) (p0 : Nat) (p1 : Int32) (p2 : Int32) (p3 : Int32) (p4 : Int32) (p5 : Int32) : CN l g yX11_copy M_X11_copy false [.ref p0, .int p1, .int p2, .int p3, .int p4, .int p5] h0 rSi (f_X11_copy h0 p0 p1 p2 p3 p4 p5) := by
  refine CN.of (by decide) rfl (fun hh => by first | rfl | cases hh) (Nat.le_of_ble_eq_true rfl) ?_
  unfold f_X11_copy
  refine a_gd (fun hkd => ?_)
  refine a_aload_n dX11_copy_0 rfl 0 rfl ?_
  refine a_iload_n dX11_copy_1 rfl 1 rfl ?_
  refine a_cV_Pi (r := p0) (ci := 12) (as := [.int p1]) (st := []) dX11_copy_2 (c_X11_isSheet l g h0 p0 p1) rfl km_X11_isSheet (hm_X11_isSheet) rfl (by decide) rfl (fun _ ee => g_X11_isSheet ee) w_methodLink_RainCover_150 w_instanceMethod_RainCover_isSheet__I_Z w_selects_RainCover_RainCover_isSheet__I_Z_RainCover_isSheet__I_Z ⟨⟨by decide, by decide⟩, ⟨by decide, by decide⟩⟩ (Nat.le_of_ble_eq_true rfl) (fun v1 => ?_)
  refine a_if_eq 16 dX11_copy_5 (by decide) (fun c2 => ?_) (fun c2 => ?_)
  · refine a_bipush (v := (-2)) dX11_copy_16 (by decide) ?_
    exact a_iret dX11_copy_18 rfl rfl (by decide) (by decide)
  · refine a_aload_n dX11_copy_8 rfl 0 rfl ?_
    refine a_iload_n dX11_copy_9 rfl 3 rfl ?_
    refine a_cV_Pi (r := p0) (ci := 12) (as := [.int p3]) (st := []) dX11_copy_10 (c_X11_isSheet l g h0 p0 p3) rfl km_X11_isSheet (hm_X11_isSheet) rfl (by decide) rfl (fun _ ee => g_X11_isSheet ee) w_methodLink_RainCover_150 w_instanceMethod_RainCover_isSheet__I_Z w_selects_RainCover_RainCover_isSheet__I_Z_RainCover_isSheet__I_Z ⟨⟨by decide, by decide⟩, ⟨by decide, by decide⟩⟩ (Nat.le_of_ble_eq_true rfl) (fun v3 => ?_)
    refine a_if_ne 19 dX11_copy_13 (by decide) (fun c4 => ?_) (fun c4 => ?_)
    · refine a_bipush (v := (-2)) dX11_copy_16 (by decide) ?_
      exact a_iret dX11_copy_18 rfl rfl (by decide) (by decide)
    · refine a_aload_n dX11_copy_19 rfl 0 rfl ?_
      refine a_getr kc12 12 dX11_copy_20 (by decide) rfl w_fieldLink_RainCover_69 (fun v5 => ?_)
      refine a_iload_n dX11_copy_23 rfl 1 rfl ?_
      refine a_aald dX11_copy_24 (fun v6 => ?_)
      refine a_astore (lc2 := [(6, .ref v6), (0, .ref p0), (1, .int p1), (2, .int p2), (3, .int p3), (4, .int p4), (5, .int p5)]) dX11_copy_25 (by decide) rfl ?_
      refine a_aload_n dX11_copy_27 rfl 1 rfl ?_
      refine a_getr kc12 12 dX11_copy_28 (by decide) rfl w_fieldLink_RainCover_69 (fun v7 => ?_)
      refine a_iload_n dX11_copy_31 rfl 4 rfl ?_
      refine a_aald dX11_copy_32 (fun v8 => ?_)
      refine a_astore (lc2 := [(7, .ref v8), (6, .ref v6), (0, .ref p0), (1, .int p1), (2, .int p2), (3, .int p3), (4, .int p4), (5, .int p5)]) dX11_copy_33 (by decide) rfl ?_
      refine a_aload dX11_copy_35 1 rfl ?_
      refine a_cV_Pi (r := v6) (ci := 7) (as := []) (st := []) dX11_copy_37 (c_X6_isMissing l g h0 v6) rfl km_X6_isMissing (hm_X6_isMissing) rfl (by decide) rfl (fun _ ee => g_X6_isMissing ee) w_methodLink_RainCover_156 w_instanceMethod_RainCover_Sheet_isMissing___Z w_selects_RainCover_Sheet_RainCover_Sheet_isMissing___Z_RainCover_Sheet_isMissing___Z ⟨⟨by decide, by decide⟩, ⟨by decide, by decide⟩⟩ (Nat.le_of_ble_eq_true rfl) (fun v9 => ?_)
      refine a_if_ne 51 dX11_copy_40 (by decide) (fun c10 => ?_) (fun c10 => ?_)
      · refine a_aload dX11_copy_43 0 rfl ?_
        refine a_cV_Pi (r := v8) (ci := 7) (as := []) (st := []) dX11_copy_45 (c_X6_isMissing l g h0 v8) rfl km_X6_isMissing (hm_X6_isMissing) rfl (by decide) rfl (fun _ ee => g_X6_isMissing ee) w_methodLink_RainCover_156 w_instanceMethod_RainCover_Sheet_isMissing___Z w_selects_RainCover_Sheet_RainCover_Sheet_isMissing___Z_RainCover_Sheet_isMissing___Z ⟨⟨by decide, by decide⟩, ⟨by decide, by decide⟩⟩ (Nat.le_of_ble_eq_true rfl) (fun v11 => ?_)
        refine a_if_eq 54 dX11_copy_48 (by decide) (fun c12 => ?_) (fun c12 => ?_)
        · refine a_aload dX11_copy_54 1 rfl ?_
          refine a_geti kc7 0 dX11_copy_56 (by decide) rfl w_fieldLink_RainCover_160 (fun v13 => ?_)
          refine a_aload dX11_copy_59 0 rfl ?_
          refine a_geti kc7 0 dX11_copy_61 (by decide) rfl w_fieldLink_RainCover_160 (fun v14 => ?_)
          refine a_icmp_eq 70 dX11_copy_64 (by decide) (fun c15 => ?_) (fun c15 => ?_)
          · refine a_aload dX11_copy_70 1 rfl ?_
            refine a_iload_n dX11_copy_72 rfl 4 rfl ?_
            refine a_iload dX11_copy_73 7 rfl ?_
            refine a_cV_Pi (r := v6) (ci := 7) (as := [.int p2, .int p5]) (st := []) dX11_copy_75 (c_X6_hasItems l g h0 v6 p2 p5) rfl km_X6_hasItems (hm_X6_hasItems) rfl (by decide) rfl (fun _ ee => g_X6_hasItems ee) w_methodLink_RainCover_163 w_instanceMethod_RainCover_Sheet_hasItems__II_Z w_selects_RainCover_Sheet_RainCover_Sheet_hasItems__II_Z_RainCover_Sheet_hasItems__II_Z ⟨⟨by decide, by decide⟩, ⟨by decide, by decide⟩⟩ (Nat.le_of_ble_eq_true rfl) (fun v16 => ?_)
            refine a_if_eq 93 dX11_copy_78 (by decide) (fun c17 => ?_) (fun c17 => ?_)
            · refine a_bipush (v := (-12)) dX11_copy_93 (by decide) ?_
              exact a_iret dX11_copy_95 rfl rfl (by decide) (by decide)
            · refine a_aload dX11_copy_81 0 rfl ?_
              refine a_iload dX11_copy_83 6 rfl ?_
              refine a_iload dX11_copy_85 7 rfl ?_
              refine a_cV_Pi (r := v8) (ci := 7) (as := [.int p4, .int p5]) (st := []) dX11_copy_87 (c_X6_hasItems l g h0 v8 p4 p5) rfl km_X6_hasItems (hm_X6_hasItems) rfl (by decide) rfl (fun _ ee => g_X6_hasItems ee) w_methodLink_RainCover_163 w_instanceMethod_RainCover_Sheet_hasItems__II_Z w_selects_RainCover_Sheet_RainCover_Sheet_hasItems__II_Z_RainCover_Sheet_hasItems__II_Z ⟨⟨by decide, by decide⟩, ⟨by decide, by decide⟩⟩ (Nat.le_of_ble_eq_true rfl) (fun v18 => ?_)
              refine a_if_ne 96 dX11_copy_90 (by decide) (fun c19 => ?_) (fun c19 => ?_)
              · refine a_bipush (v := (-12)) dX11_copy_93 (by decide) ?_
                exact a_iret dX11_copy_95 rfl rfl (by decide) (by decide)
              · refine a_aload dX11_copy_96 1 rfl ?_
                refine a_getr kc7 2 dX11_copy_98 (by decide) rfl w_fieldLink_RainCover_166 (fun v20 => ?_)
                refine a_iload_n dX11_copy_101 rfl 4 rfl ?_
                refine a_aload dX11_copy_102 0 rfl ?_
                refine a_getr kc7 2 dX11_copy_104 (by decide) rfl w_fieldLink_RainCover_166 (fun v21 => ?_)
                refine a_iload dX11_copy_107 6 rfl ?_
                refine a_iload dX11_copy_109 7 rfl ?_
                refine a_cpyi dX11_copy_111 w_methodLink_RainCover_484 w_native_java_lang_System_arraycopy__Ljava_lang_Object_ILjava_lang_Object_II_V w_static_java_lang_System_arraycopy__Ljava_lang_Object_ILjava_lang_Object_II_V w_initialized_java_lang_System (by decide) (by decide) (Nat.le_of_ble_eq_true rfl) (fun h22 => ?_)
                refine a_iload dX11_copy_114 7 rfl ?_
                exact a_iret dX11_copy_116 rfl rfl (by decide) (by decide)
          · refine a_bipush (v := (-13)) dX11_copy_67 (by decide) ?_
            exact a_iret dX11_copy_69 rfl rfl (by decide) (by decide)
        · refine a_bipush (v := (-11)) dX11_copy_51 (by decide) ?_
          exact a_iret dX11_copy_53 rfl rfl (by decide) (by decide)
      · refine a_bipush (v := (-11)) dX11_copy_51 (by decide) ?_
        exact a_iret dX11_copy_53 rfl rfl (by decide) (by decide)
