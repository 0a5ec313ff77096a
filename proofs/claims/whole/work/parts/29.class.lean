theorem dX1_runs_0 : decode cX1_runs 0 = .ok (.aload_n 0, 1) := by decide +kernel
theorem dX1_runs_1 : decode cX1_runs 1 = .ok (.getfield 13, 3) := by decide +kernel
theorem dX1_runs_4 : decode cX1_runs 4 = .ok (.bipush 20, 2) := by decide +kernel
theorem dX1_runs_6 : decode cX1_runs 6 = .ok (.if_icmp .ge 13, 3) := by decide +kernel
theorem dX1_runs_9 : decode cX1_runs 9 = .ok (.aload_n 0, 1) := by decide +kernel
theorem dX1_runs_10 : decode cX1_runs 10 = .ok (.getfield 9, 3) := by decide +kernel
theorem dX1_runs_13 : decode cX1_runs 13 = .ok (.aload_n 0, 1) := by decide +kernel
theorem dX1_runs_14 : decode cX1_runs 14 = .ok (.getfield 13, 3) := by decide +kernel
theorem dX1_runs_17 : decode cX1_runs 17 = .ok (.iload_n 1, 1) := by decide +kernel
theorem dX1_runs_18 : decode cX1_runs 18 = .ok (.iastore, 1) := by decide +kernel
theorem dX1_runs_19 : decode cX1_runs 19 = .ok (.aload_n 0, 1) := by decide +kernel
theorem dX1_runs_20 : decode cX1_runs 20 = .ok (.dup, 1) := by decide +kernel
theorem dX1_runs_21 : decode cX1_runs 21 = .ok (.getfield 13, 3) := by decide +kernel
theorem dX1_runs_24 : decode cX1_runs 24 = .ok (.iconst 1, 1) := by decide +kernel
theorem dX1_runs_25 : decode cX1_runs 25 = .ok (.iadd, 1) := by decide +kernel
theorem dX1_runs_26 : decode cX1_runs 26 = .ok (.putfield 13, 3) := by decide +kernel
theorem dX1_runs_29 : decode cX1_runs 29 = .ok (.return_, 1) := by decide +kernel
abbrev M_X1_runs : MI := (RX1, cX1_runs, 2, none, ({ frames := 0, cells := 0, slots := 0, locals := 0 } : Room), 0, 0, false)
def f_X1_runs_b19 (h : AH) (x0 : Nat) : Option AH := (xgc h x0 3).bind fun v6 => (xpc h x0 3 (v6 + 1)).bind fun h7 => some h7
def f_X1_runs (h0 : AH) (p0 : Nat) (p1 : Int32) : Option AH := if kd h0 p0 = 2 ∨ kd h0 p0 = 3 ∨ kd h0 p0 = 6 ∨ kd h0 p0 = 7 then (xgc h0 p0 3).bind fun v1 => (if 20 ≤ v1 then f_X1_runs_b19 h0 p0 else (xgcr h0 p0 2).bind fun v3 => (xgc h0 p0 3).bind fun v4 => (xis h0 v3 v4 p1).bind fun h5 => f_X1_runs_b19 h5 p0) else none
theorem g_X1_runs {h0 : AH} {p0 : Nat} {p1 : Int32} {x : AH} (e : f_X1_runs h0 p0 p1 = some x) : kd h0 p0 = 2 ∨ kd h0 p0 = 3 ∨ kd h0 p0 = 6 ∨ kd h0 p0 = 7 := by
  unfold f_X1_runs at e
  by_cases hk : kd h0 p0 = 2 ∨ kd h0 p0 = 3 ∨ kd h0 p0 = 6 ∨ kd h0 p0 = 7
  · exact hk
  · rw [if_neg hk] at e
    cases e
theorem km_X1_runs : KM yX1_runs M_X1_runs 1 := ⟨in_tb 1103 (by decide +kernel) rfl, in_tb 22 (by decide +kernel) rfl, by decide +kernel, rfl, rfl⟩
theorem hm_X1_runs : M_X1_runs.2.2.2.2.2.1 = 0 ∧ M_X1_runs.2.2.2.2.2.2.1 = 0 := ⟨rfl, rfl⟩
section
variable {l : Launch} {g : GG}
set_option maxRecDepth 100000 in
set_option maxHeartbeats 4000000 in
theorem t_X1_runs_b19 (h0 : AH) (h : AH) (x0 : Nat) : AO l g M_X1_runs false h0 19 [(0, .ref x0)] [] h 0 0 rSv (f_X1_runs_b19  h x0) := by
  unfold f_X1_runs_b19
  refine a_aload_n dX1_runs_19 rfl 0 rfl ?_
  refine a_dup dX1_runs_20 rfl ?_
  refine a_gc3 dX1_runs_21 w_fieldLink_RainCover_Crop_13 (fun v6 => ?_)
  refine a_iconst (v := 1) dX1_runs_24 (by decide) ?_
  refine a_iadd dX1_runs_25 ?_
  refine a_pc3 dX1_runs_26 w_fieldLink_RainCover_Crop_13 (fun h7 => ?_)
  exact a_vret dX1_runs_29 rfl rfl (by decide) (by decide)
end
set_option maxRecDepth 100000 in
set_option maxHeartbeats 4000000 in
theorem c_X1_runs (l : Launch) (g : GG) (h0 : AH) (p0 : Nat) (p1 : Int32) : CN l g yX1_runs M_X1_runs false [.ref p0, .int p1] h0 rSv (f_X1_runs h0 p0 p1) := by
  refine CN.of (by decide) rfl (fun hh => by first | rfl | cases hh) (Nat.le_of_ble_eq_true rfl) ?_
  unfold f_X1_runs
  refine a_gd (fun hkd => ?_)
  refine a_aload_n dX1_runs_0 rfl 0 rfl ?_
  refine a_gc3 dX1_runs_1 w_fieldLink_RainCover_Crop_13 (fun v1 => ?_)
  refine a_bipush (v := 20) dX1_runs_4 (by decide) ?_
  refine a_icmp_ge 19 dX1_runs_6 (by decide) (fun c2 => ?_) (fun c2 => ?_)
  · refine a_pick (lc2 := [(0, .ref p0)]) [0] rfl ?_
    exact t_X1_runs_b19 h0 h0 p0
  · refine a_aload_n dX1_runs_9 rfl 0 rfl ?_
    refine a_gc2 dX1_runs_10 w_fieldLink_RainCover_Crop_9 (fun v3 => ?_)
    refine a_aload_n dX1_runs_13 rfl 0 rfl ?_
    refine a_gc3 dX1_runs_14 w_fieldLink_RainCover_Crop_13 (fun v4 => ?_)
    refine a_iload_n dX1_runs_17 rfl 1 rfl ?_
    refine a_iast dX1_runs_18 (fun h5 => ?_)
    refine a_pick (lc2 := [(0, .ref p0)]) [0] rfl ?_
    exact t_X1_runs_b19 h0 h5 p0
theorem dX1_drinks_0 : decode cX1_drinks 0 = .ok (.aload_n 0, 1) := by decide +kernel
theorem dX1_drinks_1 : decode cX1_drinks 1 = .ok (.bipush 10, 2) := by decide +kernel
theorem dX1_drinks_3 : decode cX1_drinks 3 = .ok (.invokevirtual 23, 3) := by decide +kernel
theorem dX1_drinks_6 : decode cX1_drinks 6 = .ok (.iload_n 1, 1) := by decide +kernel
theorem dX1_drinks_7 : decode cX1_drinks 7 = .ok (.aload_n 0, 1) := by decide +kernel
theorem dX1_drinks_8 : decode cX1_drinks 8 = .ok (.getfield 20, 3) := by decide +kernel
theorem dX1_drinks_11 : decode cX1_drinks 11 = .ok (.iadd, 1) := by decide +kernel
theorem dX1_drinks_12 : decode cX1_drinks 12 = .ok (.ireturn, 1) := by decide +kernel
abbrev M_X1_drinks : MI := (RX1, cX1_drinks, 2, (some .int), ({ frames := 1, cells := 0, slots := 0, locals := 21 } : Room), 0, 0, false)
def f_X1_drinks (h0 : AH) (p0 : Nat) (p1 : Int32) : Option (Int32 × AH) := if kd h0 p0 = 2 ∨ kd h0 p0 = 3 ∨ kd h0 p0 = 6 ∨ kd h0 p0 = 7 then (if kd h0 p0 = 2 then f_X1_runs h0 p0 10 else if kd h0 p0 = 3 then f_X1_runs h0 p0 10 else if kd h0 p0 = 6 then f_X1_runs h0 p0 10 else if kd h0 p0 = 7 then f_X1_runs h0 p0 10 else none).bind fun q1 => (xgc q1 p0 1).bind fun v2 => some ((p1 + v2), q1) else none
theorem g_X1_drinks {h0 : AH} {p0 : Nat} {p1 : Int32} {x : (Int32 × AH)} (e : f_X1_drinks h0 p0 p1 = some x) : kd h0 p0 = 2 ∨ kd h0 p0 = 3 ∨ kd h0 p0 = 6 ∨ kd h0 p0 = 7 := by
  unfold f_X1_drinks at e
  by_cases hk : kd h0 p0 = 2 ∨ kd h0 p0 = 3 ∨ kd h0 p0 = 6 ∨ kd h0 p0 = 7
  · exact hk
  · rw [if_neg hk] at e
    cases e
theorem km_X1_drinks : KM yX1_drinks M_X1_drinks 1 := ⟨in_tb 1114 (by decide +kernel) rfl, in_tb 22 (by decide +kernel) rfl, by decide +kernel, rfl, rfl⟩
theorem hm_X1_drinks : M_X1_drinks.2.2.2.2.2.1 = 0 ∧ M_X1_drinks.2.2.2.2.2.2.1 = 0 := ⟨rfl, rfl⟩
section
variable {l : Launch} {g : GG}
end
set_option maxRecDepth 100000 in
set_option maxHeartbeats 4000000 in
theorem c_X1_drinks (l : Launch) (g : GG) (h0 : AH) (p0 : Nat) (p1 : Int32) : CN l g yX1_drinks M_X1_drinks false [.ref p0, .int p1] h0 rSi (f_X1_drinks h0 p0 p1) := by
  refine CN.of (by decide) rfl (fun hh => by first | rfl | cases hh) (Nat.le_of_ble_eq_true rfl) ?_
  unfold f_X1_drinks
  refine a_gd (fun hkd => ?_)
  refine a_aload_n dX1_drinks_0 rfl 0 rfl ?_
  refine a_bipush (v := 10) dX1_drinks_1 (by decide) ?_
  have J3 : ∀ (q1 : AH), AO l g M_X1_drinks false h0 6 [(0, .ref p0), (1, .int p1)] [] q1 0 0 rSi ((xgc q1 p0 1).bind fun v2 => some ((p1 + v2), q1)) := by
    intro q1
    refine a_iload_n dX1_drinks_6 rfl 1 rfl ?_
    refine a_aload_n dX1_drinks_7 rfl 0 rfl ?_
    refine a_gc1 dX1_drinks_8 w_fieldLink_RainCover_Crop_20 (fun v2 => ?_)
    refine a_iadd dX1_drinks_11 ?_
    exact a_iret dX1_drinks_12 rfl rfl (by decide) (by decide)
  refine a_br (fun e4 => ?_) (fun e4 => ?_)
  · exact a_cU_Sv (r := p0) (ci := 1) (as := [.int 10]) (st := []) dX1_drinks_3 (c_X1_runs l g h0 p0 10) rfl km_X1_runs (hm_X1_runs) ⟨"RainCover$Crop", "runs", "(I)V"⟩ "RainCover$Crop" rfl (by decide) (fun _ _ => e4) w_methodLink_RainCover_Crop_23 w_sameMethod_RainCover_Crop_RainCover_Crop_runs__I_V w_instanceMethod_RainCover_Crop_runs__I_V w_selects_RainCover_Bean_RainCover_Crop_runs__I_V_RainCover_Crop_runs__I_V (Or.inl rfl) (by decide +kernel) ⟨⟨by decide, by decide⟩, ⟨by decide, by decide⟩⟩ (Nat.le_of_ble_eq_true rfl) J3
  · refine a_br (fun e5 => ?_) (fun e5 => ?_)
    · exact a_cV_Sv (r := p0) (ci := 2) (as := [.int 10]) (st := []) dX1_drinks_3 (c_X1_runs l g h0 p0 10) rfl km_X1_runs (hm_X1_runs) rfl (by decide) rfl (fun _ _ => e5) w_methodLink_RainCover_Crop_23 w_instanceMethod_RainCover_Crop_runs__I_V w_selects_RainCover_Crop_RainCover_Crop_runs__I_V_RainCover_Crop_runs__I_V ⟨⟨by decide, by decide⟩, ⟨by decide, by decide⟩⟩ (Nat.le_of_ble_eq_true rfl) J3
    · refine a_br (fun e6 => ?_) (fun e6 => ?_)
      · exact a_cU_Sv (r := p0) (ci := 5) (as := [.int 10]) (st := []) dX1_drinks_3 (c_X1_runs l g h0 p0 10) rfl km_X1_runs (hm_X1_runs) ⟨"RainCover$Crop", "runs", "(I)V"⟩ "RainCover$Crop" rfl (by decide) (fun _ _ => e6) w_methodLink_RainCover_Crop_23 w_sameMethod_RainCover_Crop_RainCover_Crop_runs__I_V w_instanceMethod_RainCover_Crop_runs__I_V w_selects_RainCover_Grain_RainCover_Crop_runs__I_V_RainCover_Crop_runs__I_V (Or.inl rfl) (by decide +kernel) ⟨⟨by decide, by decide⟩, ⟨by decide, by decide⟩⟩ (Nat.le_of_ble_eq_true rfl) J3
      · refine a_br (fun e7 => ?_) (fun e7 => ?_)
        · exact a_cU_Sv (r := p0) (ci := 6) (as := [.int 10]) (st := []) dX1_drinks_3 (c_X1_runs l g h0 p0 10) rfl km_X1_runs (hm_X1_runs) ⟨"RainCover$Crop", "runs", "(I)V"⟩ "RainCover$Crop" rfl (by decide) (fun _ _ => e7) w_methodLink_RainCover_Crop_23 w_sameMethod_RainCover_Crop_RainCover_Crop_runs__I_V w_instanceMethod_RainCover_Crop_runs__I_V w_selects_RainCover_Maize_RainCover_Crop_runs__I_V_RainCover_Crop_runs__I_V (Or.inl rfl) (by decide +kernel) ⟨⟨by decide, by decide⟩, ⟨by decide, by decide⟩⟩ (Nat.le_of_ble_eq_true rfl) J3
        · exact a_nb
theorem dX0_drinks_0 : decode cX0_drinks 0 = .ok (.aload_n 0, 1) := by decide +kernel
theorem dX0_drinks_1 : decode cX0_drinks 1 = .ok (.bipush 41, 2) := by decide +kernel
theorem dX0_drinks_3 : decode cX0_drinks 3 = .ok (.invokevirtual 7, 3) := by decide +kernel
theorem dX0_drinks_6 : decode cX0_drinks 6 = .ok (.aload_n 0, 1) := by decide +kernel
theorem dX0_drinks_7 : decode cX0_drinks 7 = .ok (.iload_n 1, 1) := by decide +kernel
theorem dX0_drinks_8 : decode cX0_drinks 8 = .ok (.invokespecial 17, 3) := by decide +kernel
theorem dX0_drinks_11 : decode cX0_drinks 11 = .ok (.iconst 5, 1) := by decide +kernel
theorem dX0_drinks_12 : decode cX0_drinks 12 = .ok (.ixor, 1) := by decide +kernel
theorem dX0_drinks_13 : decode cX0_drinks 13 = .ok (.ireturn, 1) := by decide +kernel
abbrev M_X0_drinks : MI := (RX0, cX0_drinks, 2, (some .int), ({ frames := 2, cells := 0, slots := 0, locals := 42 } : Room), 0, 0, false)
def f_X0_drinks (h0 : AH) (p0 : Nat) (p1 : Int32) : Option (Int32 × AH) := if kd h0 p0 = 1 + 1 then (if kd h0 p0 = 2 then f_X1_runs h0 p0 41 else none).bind fun q1 => (if kd q1 p0 = 2 then f_X1_drinks q1 p0 p1 else none).bind fun q2 => some ((q2.1 ^^^ 5), q2.2) else none
theorem g_X0_drinks {h0 : AH} {p0 : Nat} {p1 : Int32} {x : (Int32 × AH)} (e : f_X0_drinks h0 p0 p1 = some x) : kd h0 p0 = 1 + 1 := by
  unfold f_X0_drinks at e
  by_cases hk : kd h0 p0 = 1 + 1
  · exact hk
  · rw [if_neg hk] at e
    cases e
theorem km_X0_drinks : KM yX0_drinks M_X0_drinks 1 := ⟨in_tb 1097 (by decide +kernel) rfl, in_tb 25 (by decide +kernel) rfl, by decide +kernel, rfl, rfl⟩
theorem hm_X0_drinks : M_X0_drinks.2.2.2.2.2.1 = 0 ∧ M_X0_drinks.2.2.2.2.2.2.1 = 0 := ⟨rfl, rfl⟩
section
variable {l : Launch} {g : GG}
end
set_option maxRecDepth 100000 in
set_option maxHeartbeats 4000000 in
theorem c_X0_drinks (l : Launch) (g : GG) (h0 : AH) (p0 : Nat) (p1 : Int32) : CN l g yX0_drinks M_X0_drinks false [.ref p0, .int p1] h0 rSi (f_X0_drinks h0 p0 p1) := by
  refine CN.of (by decide) rfl (fun hh => by first | rfl | cases hh) (Nat.le_of_ble_eq_true rfl) ?_
  unfold f_X0_drinks
  refine a_gd (fun hkd => ?_)
  refine a_aload_n dX0_drinks_0 rfl 0 rfl ?_
  refine a_bipush (v := 41) dX0_drinks_1 (by decide) ?_
  have J5 : ∀ (q1 : AH), AO l g M_X0_drinks false h0 6 [(0, .ref p0), (1, .int p1)] [] q1 0 0 rSi ((if kd q1 p0 = 2 then f_X1_drinks q1 p0 p1 else none).bind fun q2 => some ((q2.1 ^^^ 5), q2.2)) := by
    intro q1
    refine a_aload_n dX0_drinks_6 rfl 0 rfl ?_
    refine a_iload_n dX0_drinks_7 rfl 1 rfl ?_
    have J3 : ∀ (q2 : Int32 × AH), AO l g M_X0_drinks false h0 11 [(0, .ref p0), (1, .int p1)] [.int q2.1] q2.2 0 0 rSi (some ((q2.1 ^^^ 5), q2.2)) := by
      intro q2
      refine a_iconst (v := 5) dX0_drinks_11 (by decide) ?_
      refine a_ixor dX0_drinks_12 ?_
      exact a_iret dX0_drinks_13 rfl rfl (by decide) (by decide)
    refine a_br (fun e4 => ?_) (fun e4 => ?_)
    · exact a_cX_Si (r := p0) (ci := 1) (as := [.int p1]) (st := []) dX0_drinks_8 (c_X1_drinks l g q1 p0 p1) rfl km_X1_drinks (hm_X1_drinks) ⟨"RainCover$Crop", "drinks", "(I)I"⟩ "RainCover$Crop" rfl (by decide) (fun _ _ => e4) w_methodLink_RainCover_Bean_17 w_sameMethod_RainCover_Crop_RainCover_Crop_drinks__I_I w_superclass_RainCover_Bean_RainCover_Crop (Or.inl rfl) rfl w_instanceMethod_RainCover_Crop_drinks__I_I (by decide) ⟨⟨by decide, by decide⟩, ⟨by decide, by decide⟩⟩ (Nat.le_of_ble_eq_true rfl) J3
    · exact a_nb
  refine a_br (fun e6 => ?_) (fun e6 => ?_)
  · exact a_cU_Sv (r := p0) (ci := 1) (as := [.int 41]) (st := []) dX0_drinks_3 (c_X1_runs l g h0 p0 41) rfl km_X1_runs (hm_X1_runs) ⟨"RainCover$Bean", "runs", "(I)V"⟩ "RainCover$Crop" rfl (by decide) (fun _ _ => e6) w_methodLink_RainCover_Bean_7 w_sameMethod_RainCover_Bean_RainCover_Crop_runs__I_V w_instanceMethod_RainCover_Crop_runs__I_V w_selects_RainCover_Bean_RainCover_Bean_runs__I_V_RainCover_Crop_runs__I_V (Or.inl rfl) (by decide +kernel) ⟨⟨by decide, by decide⟩, ⟨by decide, by decide⟩⟩ (Nat.le_of_ble_eq_true rfl) J5
  · exact a_nb
theorem dX4_drinks_0 : decode cX4_drinks 0 = .ok (.aload_n 0, 1) := by decide +kernel
theorem dX4_drinks_1 : decode cX4_drinks 1 = .ok (.bipush 20, 2) := by decide +kernel
theorem dX4_drinks_3 : decode cX4_drinks 3 = .ok (.invokevirtual 7, 3) := by decide +kernel
theorem dX4_drinks_6 : decode cX4_drinks 6 = .ok (.aload_n 0, 1) := by decide +kernel
theorem dX4_drinks_7 : decode cX4_drinks 7 = .ok (.iload_n 1, 1) := by decide +kernel
theorem dX4_drinks_8 : decode cX4_drinks 8 = .ok (.invokespecial 13, 3) := by decide +kernel
theorem dX4_drinks_11 : decode cX4_drinks 11 = .ok (.aload_n 0, 1) := by decide +kernel
theorem dX4_drinks_12 : decode cX4_drinks 12 = .ok (.getfield 17, 3) := by decide +kernel
theorem dX4_drinks_15 : decode cX4_drinks 15 = .ok (.isub, 1) := by decide +kernel
theorem dX4_drinks_16 : decode cX4_drinks 16 = .ok (.ireturn, 1) := by decide +kernel
abbrev M_X4_drinks : MI := (RX4, cX4_drinks, 2, (some .int), ({ frames := 2, cells := 0, slots := 0, locals := 42 } : Room), 0, 0, false)
def f_X4_drinks (h0 : AH) (p0 : Nat) (p1 : Int32) : Option (Int32 × AH) := if kd h0 p0 = 6 ∨ kd h0 p0 = 7 then (if kd h0 p0 = 6 then f_X1_runs h0 p0 20 else if kd h0 p0 = 7 then f_X1_runs h0 p0 20 else none).bind fun q1 => (if kd q1 p0 = 6 then f_X1_drinks q1 p0 p1 else if kd q1 p0 = 7 then f_X1_drinks q1 p0 p1 else none).bind fun q2 => (xgc q2.2 p0 0).bind fun v3 => some ((q2.1 - v3), q2.2) else none
theorem g_X4_drinks {h0 : AH} {p0 : Nat} {p1 : Int32} {x : (Int32 × AH)} (e : f_X4_drinks h0 p0 p1 = some x) : kd h0 p0 = 6 ∨ kd h0 p0 = 7 := by
  unfold f_X4_drinks at e
  by_cases hk : kd h0 p0 = 6 ∨ kd h0 p0 = 7
  · exact hk
  · rw [if_neg hk] at e
    cases e
theorem km_X4_drinks : KM yX4_drinks M_X4_drinks 1 := ⟨in_tb 1107 (by decide +kernel) rfl, in_tb 23 (by decide +kernel) rfl, by decide +kernel, rfl, rfl⟩
theorem hm_X4_drinks : M_X4_drinks.2.2.2.2.2.1 = 0 ∧ M_X4_drinks.2.2.2.2.2.2.1 = 0 := ⟨rfl, rfl⟩
section
variable {l : Launch} {g : GG}
end
set_option maxRecDepth 100000 in
set_option maxHeartbeats 4000000 in
theorem c_X4_drinks (l : Launch) (g : GG) (h0 : AH) (p0 : Nat) (p1 : Int32) : CN l g yX4_drinks M_X4_drinks false [.ref p0, .int p1] h0 rSi (f_X4_drinks h0 p0 p1) := by
  refine CN.of (by decide) rfl (fun hh => by first | rfl | cases hh) (Nat.le_of_ble_eq_true rfl) ?_
  unfold f_X4_drinks
  refine a_gd (fun hkd => ?_)
  refine a_aload_n dX4_drinks_0 rfl 0 rfl ?_
  refine a_bipush (v := 20) dX4_drinks_1 (by decide) ?_
  have J7 : ∀ (q1 : AH), AO l g M_X4_drinks false h0 6 [(0, .ref p0), (1, .int p1)] [] q1 0 0 rSi ((if kd q1 p0 = 6 then f_X1_drinks q1 p0 p1 else if kd q1 p0 = 7 then f_X1_drinks q1 p0 p1 else none).bind fun q2 => (xgc q2.2 p0 0).bind fun v3 => some ((q2.1 - v3), q2.2)) := by
    intro q1
    refine a_aload_n dX4_drinks_6 rfl 0 rfl ?_
    refine a_iload_n dX4_drinks_7 rfl 1 rfl ?_
    have J4 : ∀ (q2 : Int32 × AH), AO l g M_X4_drinks false h0 11 [(0, .ref p0), (1, .int p1)] [.int q2.1] q2.2 0 0 rSi ((xgc q2.2 p0 0).bind fun v3 => some ((q2.1 - v3), q2.2)) := by
      intro q2
      refine a_aload_n dX4_drinks_11 rfl 0 rfl ?_
      refine a_gc0S dX4_drinks_12 w_fieldLink_RainCover_Grain_17 w_sameField_RainCover_Grain_RainCover_Crop_number_I (fun v3 => ?_)
      refine a_isub dX4_drinks_15 ?_
      exact a_iret dX4_drinks_16 rfl rfl (by decide) (by decide)
    refine a_br (fun e5 => ?_) (fun e5 => ?_)
    · exact a_cX_Si (r := p0) (ci := 5) (as := [.int p1]) (st := []) dX4_drinks_8 (c_X1_drinks l g q1 p0 p1) rfl km_X1_drinks (hm_X1_drinks) ⟨"RainCover$Crop", "drinks", "(I)I"⟩ "RainCover$Crop" rfl (by decide) (fun _ _ => e5) w_methodLink_RainCover_Grain_13 w_sameMethod_RainCover_Crop_RainCover_Crop_drinks__I_I w_superclass_RainCover_Grain_RainCover_Crop (Or.inl rfl) rfl w_instanceMethod_RainCover_Crop_drinks__I_I (by decide) ⟨⟨by decide, by decide⟩, ⟨by decide, by decide⟩⟩ (Nat.le_of_ble_eq_true rfl) J4
    · refine a_br (fun e6 => ?_) (fun e6 => ?_)
      · exact a_cX_Si (r := p0) (ci := 6) (as := [.int p1]) (st := []) dX4_drinks_8 (c_X1_drinks l g q1 p0 p1) rfl km_X1_drinks (hm_X1_drinks) ⟨"RainCover$Crop", "drinks", "(I)I"⟩ "RainCover$Crop" rfl (by decide) (fun _ _ => e6) w_methodLink_RainCover_Grain_13 w_sameMethod_RainCover_Crop_RainCover_Crop_drinks__I_I w_superclass_RainCover_Grain_RainCover_Crop (Or.inl rfl) rfl w_instanceMethod_RainCover_Crop_drinks__I_I (by decide) ⟨⟨by decide, by decide⟩, ⟨by decide, by decide⟩⟩ (Nat.le_of_ble_eq_true rfl) J4
      · exact a_nb
  refine a_br (fun e8 => ?_) (fun e8 => ?_)
  · exact a_cU_Sv (r := p0) (ci := 5) (as := [.int 20]) (st := []) dX4_drinks_3 (c_X1_runs l g h0 p0 20) rfl km_X1_runs (hm_X1_runs) ⟨"RainCover$Grain", "runs", "(I)V"⟩ "RainCover$Crop" rfl (by decide) (fun _ _ => e8) w_methodLink_RainCover_Grain_7 w_sameMethod_RainCover_Grain_RainCover_Crop_runs__I_V w_instanceMethod_RainCover_Crop_runs__I_V w_selects_RainCover_Grain_RainCover_Grain_runs__I_V_RainCover_Crop_runs__I_V (Or.inl rfl) (by decide +kernel) ⟨⟨by decide, by decide⟩, ⟨by decide, by decide⟩⟩ (Nat.le_of_ble_eq_true rfl) J7
  · refine a_br (fun e9 => ?_) (fun e9 => ?_)
    · exact a_cU_Sv (r := p0) (ci := 6) (as := [.int 20]) (st := []) dX4_drinks_3 (c_X1_runs l g h0 p0 20) rfl km_X1_runs (hm_X1_runs) ⟨"RainCover$Grain", "runs", "(I)V"⟩ "RainCover$Crop" rfl (by decide) (fun _ _ => e9) w_methodLink_RainCover_Grain_7 w_sameMethod_RainCover_Grain_RainCover_Crop_runs__I_V w_instanceMethod_RainCover_Crop_runs__I_V w_selects_RainCover_Maize_RainCover_Grain_runs__I_V_RainCover_Crop_runs__I_V (Or.inl rfl) (by decide +kernel) ⟨⟨by decide, by decide⟩, ⟨by decide, by decide⟩⟩ (Nat.le_of_ble_eq_true rfl) J7
    · exact a_nb
theorem dX1_wilts_0 : decode cX1_wilts 0 = .ok (.aload_n 0, 1) := by decide +kernel
theorem dX1_wilts_1 : decode cX1_wilts 1 = .ok (.bipush 11, 2) := by decide +kernel
theorem dX1_wilts_3 : decode cX1_wilts 3 = .ok (.invokevirtual 23, 3) := by decide +kernel
theorem dX1_wilts_6 : decode cX1_wilts 6 = .ok (.aload_n 0, 1) := by decide +kernel
theorem dX1_wilts_7 : decode cX1_wilts 7 = .ok (.iload_n 1, 1) := by decide +kernel
theorem dX1_wilts_8 : decode cX1_wilts 8 = .ok (.invokevirtual 27, 3) := by decide +kernel
theorem dX1_wilts_11 : decode cX1_wilts 11 = .ok (.iconst 3, 1) := by decide +kernel
theorem dX1_wilts_12 : decode cX1_wilts 12 = .ok (.imul, 1) := by decide +kernel
theorem dX1_wilts_13 : decode cX1_wilts 13 = .ok (.ireturn, 1) := by decide +kernel
abbrev M_X1_wilts : MI := (RX1, cX1_wilts, 2, (some .int), ({ frames := 3, cells := 0, slots := 0, locals := 63 } : Room), 0, 0, false)
def f_X1_wilts (h0 : AH) (p0 : Nat) (p1 : Int32) : Option (Int32 × AH) := if kd h0 p0 = 2 ∨ kd h0 p0 = 3 ∨ kd h0 p0 = 6 ∨ kd h0 p0 = 7 then (if kd h0 p0 = 2 then f_X1_runs h0 p0 11 else if kd h0 p0 = 3 then f_X1_runs h0 p0 11 else if kd h0 p0 = 6 then f_X1_runs h0 p0 11 else if kd h0 p0 = 7 then f_X1_runs h0 p0 11 else none).bind fun q1 => (if kd q1 p0 = 2 then f_X0_drinks q1 p0 p1 else if kd q1 p0 = 3 then f_X1_drinks q1 p0 p1 else if kd q1 p0 = 6 then f_X4_drinks q1 p0 p1 else if kd q1 p0 = 7 then f_X4_drinks q1 p0 p1 else none).bind fun q2 => some ((q2.1 * 3), q2.2) else none
theorem g_X1_wilts {h0 : AH} {p0 : Nat} {p1 : Int32} {x : (Int32 × AH)} (e : f_X1_wilts h0 p0 p1 = some x) : kd h0 p0 = 2 ∨ kd h0 p0 = 3 ∨ kd h0 p0 = 6 ∨ kd h0 p0 = 7 := by
  unfold f_X1_wilts at e
  by_cases hk : kd h0 p0 = 2 ∨ kd h0 p0 = 3 ∨ kd h0 p0 = 6 ∨ kd h0 p0 = 7
  · exact hk
  · rw [if_neg hk] at e
    cases e
theorem km_X1_wilts : KM yX1_wilts M_X1_wilts 1 := ⟨in_tb 1134 (by decide +kernel) rfl, in_tb 22 (by decide +kernel) rfl, by decide +kernel, rfl, rfl⟩
theorem hm_X1_wilts : M_X1_wilts.2.2.2.2.2.1 = 0 ∧ M_X1_wilts.2.2.2.2.2.2.1 = 0 := ⟨rfl, rfl⟩
section
variable {l : Launch} {g : GG}
end
set_option maxRecDepth 100000 in
set_option maxHeartbeats 4000000 in
theorem c_X1_wilts (l : Launch) (g : GG) (h0 : AH) (p0 : Nat) (p1 : Int32) : CN l g yX1_wilts M_X1_wilts false [.ref p0, .int p1] h0 rSi (f_X1_wilts h0 p0 p1) := by
  refine CN.of (by decide) rfl (fun hh => by first | rfl | cases hh) (Nat.le_of_ble_eq_true rfl) ?_
  unfold f_X1_wilts
  refine a_gd (fun hkd => ?_)
  refine a_aload_n dX1_wilts_0 rfl 0 rfl ?_
  refine a_bipush (v := 11) dX1_wilts_1 (by decide) ?_
  have J8 : ∀ (q1 : AH), AO l g M_X1_wilts false h0 6 [(0, .ref p0), (1, .int p1)] [] q1 0 0 rSi ((if kd q1 p0 = 2 then f_X0_drinks q1 p0 p1 else if kd q1 p0 = 3 then f_X1_drinks q1 p0 p1 else if kd q1 p0 = 6 then f_X4_drinks q1 p0 p1 else if kd q1 p0 = 7 then f_X4_drinks q1 p0 p1 else none).bind fun q2 => some ((q2.1 * 3), q2.2)) := by
    intro q1
    refine a_aload_n dX1_wilts_6 rfl 0 rfl ?_
    refine a_iload_n dX1_wilts_7 rfl 1 rfl ?_
    have J3 : ∀ (q2 : Int32 × AH), AO l g M_X1_wilts false h0 11 [(0, .ref p0), (1, .int p1)] [.int q2.1] q2.2 0 0 rSi (some ((q2.1 * 3), q2.2)) := by
      intro q2
      refine a_iconst (v := 3) dX1_wilts_11 (by decide) ?_
      refine a_imul dX1_wilts_12 ?_
      exact a_iret dX1_wilts_13 rfl rfl (by decide) (by decide)
    refine a_br (fun e4 => ?_) (fun e4 => ?_)
    · exact a_cU_Si (r := p0) (ci := 1) (as := [.int p1]) (st := []) dX1_wilts_8 (c_X0_drinks l g q1 p0 p1) rfl km_X0_drinks (hm_X0_drinks) ⟨"RainCover$Crop", "drinks", "(I)I"⟩ "RainCover$Crop" rfl (by decide) (fun _ _ => e4) w_methodLink_RainCover_Crop_27 w_sameMethod_RainCover_Crop_RainCover_Crop_drinks__I_I w_instanceMethod_RainCover_Bean_drinks__I_I w_selects_RainCover_Bean_RainCover_Crop_drinks__I_I_RainCover_Bean_drinks__I_I (Or.inr ⟨w_instanceMethod_RainCover_Crop_drinks__I_I, _, _, _, w_code_RainCover_Crop_drinks__I_I⟩) (by decide +kernel) ⟨⟨by decide, by decide⟩, ⟨by decide, by decide⟩⟩ (Nat.le_of_ble_eq_true rfl) J3
    · refine a_br (fun e5 => ?_) (fun e5 => ?_)
      · exact a_cV_Si (r := p0) (ci := 2) (as := [.int p1]) (st := []) dX1_wilts_8 (c_X1_drinks l g q1 p0 p1) rfl km_X1_drinks (hm_X1_drinks) rfl (by decide) rfl (fun _ _ => e5) w_methodLink_RainCover_Crop_27 w_instanceMethod_RainCover_Crop_drinks__I_I w_selects_RainCover_Crop_RainCover_Crop_drinks__I_I_RainCover_Crop_drinks__I_I ⟨⟨by decide, by decide⟩, ⟨by decide, by decide⟩⟩ (Nat.le_of_ble_eq_true rfl) J3
      · refine a_br (fun e6 => ?_) (fun e6 => ?_)
        · exact a_cU_Si (r := p0) (ci := 5) (as := [.int p1]) (st := []) dX1_wilts_8 (c_X4_drinks l g q1 p0 p1) rfl km_X4_drinks (hm_X4_drinks) ⟨"RainCover$Crop", "drinks", "(I)I"⟩ "RainCover$Crop" rfl (by decide) (fun _ _ => e6) w_methodLink_RainCover_Crop_27 w_sameMethod_RainCover_Crop_RainCover_Crop_drinks__I_I w_instanceMethod_RainCover_Grain_drinks__I_I w_selects_RainCover_Grain_RainCover_Crop_drinks__I_I_RainCover_Grain_drinks__I_I (Or.inr ⟨w_instanceMethod_RainCover_Crop_drinks__I_I, _, _, _, w_code_RainCover_Crop_drinks__I_I⟩) (by decide +kernel) ⟨⟨by decide, by decide⟩, ⟨by decide, by decide⟩⟩ (Nat.le_of_ble_eq_true rfl) J3
        · refine a_br (fun e7 => ?_) (fun e7 => ?_)
          · exact a_cU_Si (r := p0) (ci := 6) (as := [.int p1]) (st := []) dX1_wilts_8 (c_X4_drinks l g q1 p0 p1) rfl km_X4_drinks (hm_X4_drinks) ⟨"RainCover$Crop", "drinks", "(I)I"⟩ "RainCover$Crop" rfl (by decide) (fun _ _ => e7) w_methodLink_RainCover_Crop_27 w_sameMethod_RainCover_Crop_RainCover_Crop_drinks__I_I w_instanceMethod_RainCover_Grain_drinks__I_I w_selects_RainCover_Maize_RainCover_Crop_drinks__I_I_RainCover_Grain_drinks__I_I (Or.inr ⟨w_instanceMethod_RainCover_Crop_drinks__I_I, _, _, _, w_code_RainCover_Crop_drinks__I_I⟩) (by decide +kernel) ⟨⟨by decide, by decide⟩, ⟨by decide, by decide⟩⟩ (Nat.le_of_ble_eq_true rfl) J3
          · exact a_nb
  refine a_br (fun e9 => ?_) (fun e9 => ?_)
  · exact a_cU_Sv (r := p0) (ci := 1) (as := [.int 11]) (st := []) dX1_wilts_3 (c_X1_runs l g h0 p0 11) rfl km_X1_runs (hm_X1_runs) ⟨"RainCover$Crop", "runs", "(I)V"⟩ "RainCover$Crop" rfl (by decide) (fun _ _ => e9) w_methodLink_RainCover_Crop_23 w_sameMethod_RainCover_Crop_RainCover_Crop_runs__I_V w_instanceMethod_RainCover_Crop_runs__I_V w_selects_RainCover_Bean_RainCover_Crop_runs__I_V_RainCover_Crop_runs__I_V (Or.inl rfl) (by decide +kernel) ⟨⟨by decide, by decide⟩, ⟨by decide, by decide⟩⟩ (Nat.le_of_ble_eq_true rfl) J8
  · refine a_br (fun e10 => ?_) (fun e10 => ?_)
    · exact a_cV_Sv (r := p0) (ci := 2) (as := [.int 11]) (st := []) dX1_wilts_3 (c_X1_runs l g h0 p0 11) rfl km_X1_runs (hm_X1_runs) rfl (by decide) rfl (fun _ _ => e10) w_methodLink_RainCover_Crop_23 w_instanceMethod_RainCover_Crop_runs__I_V w_selects_RainCover_Crop_RainCover_Crop_runs__I_V_RainCover_Crop_runs__I_V ⟨⟨by decide, by decide⟩, ⟨by decide, by decide⟩⟩ (Nat.le_of_ble_eq_true rfl) J8
    · refine a_br (fun e11 => ?_) (fun e11 => ?_)
      · exact a_cU_Sv (r := p0) (ci := 5) (as := [.int 11]) (st := []) dX1_wilts_3 (c_X1_runs l g h0 p0 11) rfl km_X1_runs (hm_X1_runs) ⟨"RainCover$Crop", "runs", "(I)V"⟩ "RainCover$Crop" rfl (by decide) (fun _ _ => e11) w_methodLink_RainCover_Crop_23 w_sameMethod_RainCover_Crop_RainCover_Crop_runs__I_V w_instanceMethod_RainCover_Crop_runs__I_V w_selects_RainCover_Grain_RainCover_Crop_runs__I_V_RainCover_Crop_runs__I_V (Or.inl rfl) (by decide +kernel) ⟨⟨by decide, by decide⟩, ⟨by decide, by decide⟩⟩ (Nat.le_of_ble_eq_true rfl) J8
      · refine a_br (fun e12 => ?_) (fun e12 => ?_)
        · exact a_cU_Sv (r := p0) (ci := 6) (as := [.int 11]) (st := []) dX1_wilts_3 (c_X1_runs l g h0 p0 11) rfl km_X1_runs (hm_X1_runs) ⟨"RainCover$Crop", "runs", "(I)V"⟩ "RainCover$Crop" rfl (by decide) (fun _ _ => e12) w_methodLink_RainCover_Crop_23 w_sameMethod_RainCover_Crop_RainCover_Crop_runs__I_V w_instanceMethod_RainCover_Crop_runs__I_V w_selects_RainCover_Maize_RainCover_Crop_runs__I_V_RainCover_Crop_runs__I_V (Or.inl rfl) (by decide +kernel) ⟨⟨by decide, by decide⟩, ⟨by decide, by decide⟩⟩ (Nat.le_of_ble_eq_true rfl) J8
        · exact a_nb
theorem dX0_wilts_0 : decode cX0_wilts 0 = .ok (.aload_n 0, 1) := by decide +kernel
theorem dX0_wilts_1 : decode cX0_wilts 1 = .ok (.bipush 40, 2) := by decide +kernel
theorem dX0_wilts_3 : decode cX0_wilts 3 = .ok (.invokevirtual 7, 3) := by decide +kernel
theorem dX0_wilts_6 : decode cX0_wilts 6 = .ok (.aload_n 0, 1) := by decide +kernel
theorem dX0_wilts_7 : decode cX0_wilts 7 = .ok (.iload_n 1, 1) := by decide +kernel
theorem dX0_wilts_8 : decode cX0_wilts 8 = .ok (.invokespecial 13, 3) := by decide +kernel
theorem dX0_wilts_11 : decode cX0_wilts 11 = .ok (.iconst 2, 1) := by decide +kernel
theorem dX0_wilts_12 : decode cX0_wilts 12 = .ok (.imul, 1) := by decide +kernel
theorem dX0_wilts_13 : decode cX0_wilts 13 = .ok (.ireturn, 1) := by decide +kernel
abbrev M_X0_wilts : MI := (RX0, cX0_wilts, 2, (some .int), ({ frames := 4, cells := 0, slots := 0, locals := 84 } : Room), 0, 0, false)
def f_X0_wilts (h0 : AH) (p0 : Nat) (p1 : Int32) : Option (Int32 × AH) := if kd h0 p0 = 1 + 1 then (if kd h0 p0 = 2 then f_X1_runs h0 p0 40 else none).bind fun q1 => (if kd q1 p0 = 2 then f_X1_wilts q1 p0 p1 else none).bind fun q2 => some ((q2.1 * 2), q2.2) else none
theorem g_X0_wilts {h0 : AH} {p0 : Nat} {p1 : Int32} {x : (Int32 × AH)} (e : f_X0_wilts h0 p0 p1 = some x) : kd h0 p0 = 1 + 1 := by
  unfold f_X0_wilts at e
  by_cases hk : kd h0 p0 = 1 + 1
  · exact hk
  · rw [if_neg hk] at e
    cases e
theorem km_X0_wilts : KM yX0_wilts M_X0_wilts 1 := ⟨in_tb 1122 (by decide +kernel) rfl, in_tb 25 (by decide +kernel) rfl, by decide +kernel, rfl, rfl⟩
theorem hm_X0_wilts : M_X0_wilts.2.2.2.2.2.1 = 0 ∧ M_X0_wilts.2.2.2.2.2.2.1 = 0 := ⟨rfl, rfl⟩
section
variable {l : Launch} {g : GG}
end
set_option maxRecDepth 100000 in
set_option maxHeartbeats 4000000 in
theorem c_X0_wilts (l : Launch) (g : GG) (h0 : AH) (p0 : Nat) (p1 : Int32) : CN l g yX0_wilts M_X0_wilts false [.ref p0, .int p1] h0 rSi (f_X0_wilts h0 p0 p1) := by
  refine CN.of (by decide) rfl (fun hh => by first | rfl | cases hh) (Nat.le_of_ble_eq_true rfl) ?_
  unfold f_X0_wilts
  refine a_gd (fun hkd => ?_)
  refine a_aload_n dX0_wilts_0 rfl 0 rfl ?_
  refine a_bipush (v := 40) dX0_wilts_1 (by decide) ?_
  have J5 : ∀ (q1 : AH), AO l g M_X0_wilts false h0 6 [(0, .ref p0), (1, .int p1)] [] q1 0 0 rSi ((if kd q1 p0 = 2 then f_X1_wilts q1 p0 p1 else none).bind fun q2 => some ((q2.1 * 2), q2.2)) := by
    intro q1
    refine a_aload_n dX0_wilts_6 rfl 0 rfl ?_
    refine a_iload_n dX0_wilts_7 rfl 1 rfl ?_
    have J3 : ∀ (q2 : Int32 × AH), AO l g M_X0_wilts false h0 11 [(0, .ref p0), (1, .int p1)] [.int q2.1] q2.2 0 0 rSi (some ((q2.1 * 2), q2.2)) := by
      intro q2
      refine a_iconst (v := 2) dX0_wilts_11 (by decide) ?_
      refine a_imul dX0_wilts_12 ?_
      exact a_iret dX0_wilts_13 rfl rfl (by decide) (by decide)
    refine a_br (fun e4 => ?_) (fun e4 => ?_)
    · exact a_cX_Si (r := p0) (ci := 1) (as := [.int p1]) (st := []) dX0_wilts_8 (c_X1_wilts l g q1 p0 p1) rfl km_X1_wilts (hm_X1_wilts) ⟨"RainCover$Crop", "wilts", "(I)I"⟩ "RainCover$Crop" rfl (by decide) (fun _ _ => e4) w_methodLink_RainCover_Bean_13 w_sameMethod_RainCover_Crop_RainCover_Crop_wilts__I_I w_superclass_RainCover_Bean_RainCover_Crop (Or.inl rfl) rfl w_instanceMethod_RainCover_Crop_wilts__I_I (by decide) ⟨⟨by decide, by decide⟩, ⟨by decide, by decide⟩⟩ (Nat.le_of_ble_eq_true rfl) J3
    · exact a_nb
  refine a_br (fun e6 => ?_) (fun e6 => ?_)
  · exact a_cU_Sv (r := p0) (ci := 1) (as := [.int 40]) (st := []) dX0_wilts_3 (c_X1_runs l g h0 p0 40) rfl km_X1_runs (hm_X1_runs) ⟨"RainCover$Bean", "runs", "(I)V"⟩ "RainCover$Crop" rfl (by decide) (fun _ _ => e6) w_methodLink_RainCover_Bean_7 w_sameMethod_RainCover_Bean_RainCover_Crop_runs__I_V w_instanceMethod_RainCover_Crop_runs__I_V w_selects_RainCover_Bean_RainCover_Bean_runs__I_V_RainCover_Crop_runs__I_V (Or.inl rfl) (by decide +kernel) ⟨⟨by decide, by decide⟩, ⟨by decide, by decide⟩⟩ (Nat.le_of_ble_eq_true rfl) J5
  · exact a_nb
theorem dX5_wilts_0 : decode cX5_wilts 0 = .ok (.aload_n 0, 1) := by decide +kernel
theorem dX5_wilts_1 : decode cX5_wilts 1 = .ok (.bipush 30, 2) := by decide +kernel
theorem dX5_wilts_3 : decode cX5_wilts 3 = .ok (.invokevirtual 7, 3) := by decide +kernel
theorem dX5_wilts_6 : decode cX5_wilts 6 = .ok (.aload_n 0, 1) := by decide +kernel
theorem dX5_wilts_7 : decode cX5_wilts 7 = .ok (.iload_n 1, 1) := by decide +kernel
theorem dX5_wilts_8 : decode cX5_wilts 8 = .ok (.invokespecial 13, 3) := by decide +kernel
theorem dX5_wilts_11 : decode cX5_wilts 11 = .ok (.iconst 1, 1) := by decide +kernel
theorem dX5_wilts_12 : decode cX5_wilts 12 = .ok (.iadd, 1) := by decide +kernel
theorem dX5_wilts_13 : decode cX5_wilts 13 = .ok (.ireturn, 1) := by decide +kernel
abbrev M_X5_wilts : MI := (RX5, cX5_wilts, 2, (some .int), ({ frames := 4, cells := 0, slots := 0, locals := 84 } : Room), 0, 0, false)
def f_X5_wilts (h0 : AH) (p0 : Nat) (p1 : Int32) : Option (Int32 × AH) := if kd h0 p0 = 6 + 1 then (if kd h0 p0 = 7 then f_X1_runs h0 p0 30 else none).bind fun q1 => (if kd q1 p0 = 7 then f_X1_wilts q1 p0 p1 else none).bind fun q2 => some ((q2.1 + 1), q2.2) else none
theorem g_X5_wilts {h0 : AH} {p0 : Nat} {p1 : Int32} {x : (Int32 × AH)} (e : f_X5_wilts h0 p0 p1 = some x) : kd h0 p0 = 6 + 1 := by
  unfold f_X5_wilts at e
  by_cases hk : kd h0 p0 = 6 + 1
  · exact hk
  · rw [if_neg hk] at e
    cases e
theorem km_X5_wilts : KM yX5_wilts M_X5_wilts 1 := ⟨in_tb 1127 (by decide +kernel) rfl, in_tb 24 (by decide +kernel) rfl, by decide +kernel, rfl, rfl⟩
theorem hm_X5_wilts : M_X5_wilts.2.2.2.2.2.1 = 0 ∧ M_X5_wilts.2.2.2.2.2.2.1 = 0 := ⟨rfl, rfl⟩
section
variable {l : Launch} {g : GG}
end
set_option maxRecDepth 100000 in
set_option maxHeartbeats 4000000 in
theorem c_X5_wilts (l : Launch) (g : GG) (h0 : AH) (p0 : Nat) (p1 : Int32) : CN l g yX5_wilts M_X5_wilts false [.ref p0, .int p1] h0 rSi (f_X5_wilts h0 p0 p1) := by
  refine CN.of (by decide) rfl (fun hh => by first | rfl | cases hh) (Nat.le_of_ble_eq_true rfl) ?_
  unfold f_X5_wilts
  refine a_gd (fun hkd => ?_)
  refine a_aload_n dX5_wilts_0 rfl 0 rfl ?_
  refine a_bipush (v := 30) dX5_wilts_1 (by decide) ?_
  have J5 : ∀ (q1 : AH), AO l g M_X5_wilts false h0 6 [(0, .ref p0), (1, .int p1)] [] q1 0 0 rSi ((if kd q1 p0 = 7 then f_X1_wilts q1 p0 p1 else none).bind fun q2 => some ((q2.1 + 1), q2.2)) := by
    intro q1
    refine a_aload_n dX5_wilts_6 rfl 0 rfl ?_
    refine a_iload_n dX5_wilts_7 rfl 1 rfl ?_
    have J3 : ∀ (q2 : Int32 × AH), AO l g M_X5_wilts false h0 11 [(0, .ref p0), (1, .int p1)] [.int q2.1] q2.2 0 0 rSi (some ((q2.1 + 1), q2.2)) := by
      intro q2
      refine a_iconst (v := 1) dX5_wilts_11 (by decide) ?_
      refine a_iadd dX5_wilts_12 ?_
      exact a_iret dX5_wilts_13 rfl rfl (by decide) (by decide)
    refine a_br (fun e4 => ?_) (fun e4 => ?_)
    · exact a_cX_Si (r := p0) (ci := 6) (as := [.int p1]) (st := []) dX5_wilts_8 (c_X1_wilts l g q1 p0 p1) rfl km_X1_wilts (hm_X1_wilts) ⟨"RainCover$Grain", "wilts", "(I)I"⟩ "RainCover$Crop" rfl (by decide) (fun _ _ => e4) w_methodLink_RainCover_Maize_13 w_sameMethod_RainCover_Grain_RainCover_Crop_wilts__I_I w_superclass_RainCover_Maize_RainCover_Grain (Or.inr w_superclass_RainCover_Grain_RainCover_Crop) rfl w_instanceMethod_RainCover_Crop_wilts__I_I (by decide) ⟨⟨by decide, by decide⟩, ⟨by decide, by decide⟩⟩ (Nat.le_of_ble_eq_true rfl) J3
    · exact a_nb
  refine a_br (fun e6 => ?_) (fun e6 => ?_)
  · exact a_cU_Sv (r := p0) (ci := 6) (as := [.int 30]) (st := []) dX5_wilts_3 (c_X1_runs l g h0 p0 30) rfl km_X1_runs (hm_X1_runs) ⟨"RainCover$Maize", "runs", "(I)V"⟩ "RainCover$Crop" rfl (by decide) (fun _ _ => e6) w_methodLink_RainCover_Maize_7 w_sameMethod_RainCover_Maize_RainCover_Crop_runs__I_V w_instanceMethod_RainCover_Crop_runs__I_V w_selects_RainCover_Maize_RainCover_Maize_runs__I_V_RainCover_Crop_runs__I_V (Or.inl rfl) (by decide +kernel) ⟨⟨by decide, by decide⟩, ⟨by decide, by decide⟩⟩ (Nat.le_of_ble_eq_true rfl) J5
  · exact a_nb
theorem dX1_yields_0 : decode cX1_yields 0 = .ok (.aload_n 0, 1) := by decide +kernel
theorem dX1_yields_1 : decode cX1_yields 1 = .ok (.bipush 12, 2) := by decide +kernel
theorem dX1_yields_3 : decode cX1_yields 3 = .ok (.invokevirtual 23, 3) := by decide +kernel
theorem dX1_yields_6 : decode cX1_yields 6 = .ok (.aload_n 0, 1) := by decide +kernel
theorem dX1_yields_7 : decode cX1_yields 7 = .ok (.iload_n 1, 1) := by decide +kernel
theorem dX1_yields_8 : decode cX1_yields 8 = .ok (.invokevirtual 31, 3) := by decide +kernel
theorem dX1_yields_11 : decode cX1_yields 11 = .ok (.aload_n 0, 1) := by decide +kernel
theorem dX1_yields_12 : decode cX1_yields 12 = .ok (.iload_n 1, 1) := by decide +kernel
theorem dX1_yields_13 : decode cX1_yields 13 = .ok (.iconst 1, 1) := by decide +kernel
theorem dX1_yields_14 : decode cX1_yields 14 = .ok (.isub, 1) := by decide +kernel
theorem dX1_yields_15 : decode cX1_yields 15 = .ok (.invokevirtual 27, 3) := by decide +kernel
theorem dX1_yields_18 : decode cX1_yields 18 = .ok (.ixor, 1) := by decide +kernel
theorem dX1_yields_19 : decode cX1_yields 19 = .ok (.ireturn, 1) := by decide +kernel
abbrev M_X1_yields : MI := (RX1, cX1_yields, 2, (some .int), ({ frames := 5, cells := 0, slots := 0, locals := 105 } : Room), 0, 0, false)
def f_X1_yields (h0 : AH) (p0 : Nat) (p1 : Int32) : Option (Int32 × AH) := if kd h0 p0 = 2 ∨ kd h0 p0 = 3 ∨ kd h0 p0 = 6 ∨ kd h0 p0 = 7 then (if kd h0 p0 = 2 then f_X1_runs h0 p0 12 else if kd h0 p0 = 3 then f_X1_runs h0 p0 12 else if kd h0 p0 = 6 then f_X1_runs h0 p0 12 else if kd h0 p0 = 7 then f_X1_runs h0 p0 12 else none).bind fun q1 => (if kd q1 p0 = 2 then f_X0_wilts q1 p0 p1 else if kd q1 p0 = 3 then f_X1_wilts q1 p0 p1 else if kd q1 p0 = 6 then f_X1_wilts q1 p0 p1 else if kd q1 p0 = 7 then f_X5_wilts q1 p0 p1 else none).bind fun q2 => (if kd q2.2 p0 = 2 then f_X0_drinks q2.2 p0 (p1 - 1) else if kd q2.2 p0 = 3 then f_X1_drinks q2.2 p0 (p1 - 1) else if kd q2.2 p0 = 6 then f_X4_drinks q2.2 p0 (p1 - 1) else if kd q2.2 p0 = 7 then f_X4_drinks q2.2 p0 (p1 - 1) else none).bind fun q3 => some ((q2.1 ^^^ q3.1), q3.2) else none
theorem g_X1_yields {h0 : AH} {p0 : Nat} {p1 : Int32} {x : (Int32 × AH)} (e : f_X1_yields h0 p0 p1 = some x) : kd h0 p0 = 2 ∨ kd h0 p0 = 3 ∨ kd h0 p0 = 6 ∨ kd h0 p0 = 7 := by
  unfold f_X1_yields at e
  by_cases hk : kd h0 p0 = 2 ∨ kd h0 p0 = 3 ∨ kd h0 p0 = 6 ∨ kd h0 p0 = 7
  · exact hk
  · rw [if_neg hk] at e
    cases e
theorem km_X1_yields : KM yX1_yields M_X1_yields 1 := ⟨in_tb 1148 (by decide +kernel) rfl, in_tb 22 (by decide +kernel) rfl, by decide +kernel, rfl, rfl⟩
theorem hm_X1_yields : M_X1_yields.2.2.2.2.2.1 = 0 ∧ M_X1_yields.2.2.2.2.2.2.1 = 0 := ⟨rfl, rfl⟩
section
variable {l : Launch} {g : GG}
end
set_option maxRecDepth 100000 in
set_option maxHeartbeats 4000000 in
theorem c_X1_yields (l : Launch) (g : GG) (h0 : AH) (p0 : Nat) (p1 : Int32) : CN l g yX1_yields M_X1_yields false [.ref p0, .int p1] h0 rSi (f_X1_yields h0 p0 p1) := by
  refine CN.of (by decide) rfl (fun hh => by first | rfl | cases hh) (Nat.le_of_ble_eq_true rfl) ?_
  unfold f_X1_yields
  refine a_gd (fun hkd => ?_)
  refine a_aload_n dX1_yields_0 rfl 0 rfl ?_
  refine a_bipush (v := 12) dX1_yields_1 (by decide) ?_
  have J14 : ∀ (q1 : AH), AO l g M_X1_yields false h0 6 [(0, .ref p0), (1, .int p1)] [] q1 0 0 rSi ((if kd q1 p0 = 2 then f_X0_wilts q1 p0 p1 else if kd q1 p0 = 3 then f_X1_wilts q1 p0 p1 else if kd q1 p0 = 6 then f_X1_wilts q1 p0 p1 else if kd q1 p0 = 7 then f_X5_wilts q1 p0 p1 else none).bind fun q2 => (if kd q2.2 p0 = 2 then f_X0_drinks q2.2 p0 (p1 - 1) else if kd q2.2 p0 = 3 then f_X1_drinks q2.2 p0 (p1 - 1) else if kd q2.2 p0 = 6 then f_X4_drinks q2.2 p0 (p1 - 1) else if kd q2.2 p0 = 7 then f_X4_drinks q2.2 p0 (p1 - 1) else none).bind fun q3 => some ((q2.1 ^^^ q3.1), q3.2)) := by
    intro q1
    refine a_aload_n dX1_yields_6 rfl 0 rfl ?_
    refine a_iload_n dX1_yields_7 rfl 1 rfl ?_
    have J9 : ∀ (q2 : Int32 × AH), AO l g M_X1_yields false h0 11 [(0, .ref p0), (1, .int p1)] [.int q2.1] q2.2 0 0 rSi ((if kd q2.2 p0 = 2 then f_X0_drinks q2.2 p0 (p1 - 1) else if kd q2.2 p0 = 3 then f_X1_drinks q2.2 p0 (p1 - 1) else if kd q2.2 p0 = 6 then f_X4_drinks q2.2 p0 (p1 - 1) else if kd q2.2 p0 = 7 then f_X4_drinks q2.2 p0 (p1 - 1) else none).bind fun q3 => some ((q2.1 ^^^ q3.1), q3.2)) := by
      intro q2
      refine a_aload_n dX1_yields_11 rfl 0 rfl ?_
      refine a_iload_n dX1_yields_12 rfl 1 rfl ?_
      refine a_iconst (v := 1) dX1_yields_13 (by decide) ?_
      refine a_isub dX1_yields_14 ?_
      have J4 : ∀ (q3 : Int32 × AH), AO l g M_X1_yields false h0 18 [(0, .ref p0), (1, .int p1)] [.int q3.1, .int q2.1] q3.2 0 0 rSi (some ((q2.1 ^^^ q3.1), q3.2)) := by
        intro q3
        refine a_ixor dX1_yields_18 ?_
        exact a_iret dX1_yields_19 rfl rfl (by decide) (by decide)
      refine a_br (fun e5 => ?_) (fun e5 => ?_)
      · exact a_cU_Si (r := p0) (ci := 1) (as := [.int (p1 - 1)]) (st := [.int q2.1]) dX1_yields_15 (c_X0_drinks l g q2.2 p0 (p1 - 1)) rfl km_X0_drinks (hm_X0_drinks) ⟨"RainCover$Crop", "drinks", "(I)I"⟩ "RainCover$Crop" rfl (by decide) (fun _ _ => e5) w_methodLink_RainCover_Crop_27 w_sameMethod_RainCover_Crop_RainCover_Crop_drinks__I_I w_instanceMethod_RainCover_Bean_drinks__I_I w_selects_RainCover_Bean_RainCover_Crop_drinks__I_I_RainCover_Bean_drinks__I_I (Or.inr ⟨w_instanceMethod_RainCover_Crop_drinks__I_I, _, _, _, w_code_RainCover_Crop_drinks__I_I⟩) (by decide +kernel) ⟨⟨by decide, by decide⟩, ⟨by decide, by decide⟩⟩ (Nat.le_of_ble_eq_true rfl) J4
      · refine a_br (fun e6 => ?_) (fun e6 => ?_)
        · exact a_cV_Si (r := p0) (ci := 2) (as := [.int (p1 - 1)]) (st := [.int q2.1]) dX1_yields_15 (c_X1_drinks l g q2.2 p0 (p1 - 1)) rfl km_X1_drinks (hm_X1_drinks) rfl (by decide) rfl (fun _ _ => e6) w_methodLink_RainCover_Crop_27 w_instanceMethod_RainCover_Crop_drinks__I_I w_selects_RainCover_Crop_RainCover_Crop_drinks__I_I_RainCover_Crop_drinks__I_I ⟨⟨by decide, by decide⟩, ⟨by decide, by decide⟩⟩ (Nat.le_of_ble_eq_true rfl) J4
        · refine a_br (fun e7 => ?_) (fun e7 => ?_)
          · exact a_cU_Si (r := p0) (ci := 5) (as := [.int (p1 - 1)]) (st := [.int q2.1]) dX1_yields_15 (c_X4_drinks l g q2.2 p0 (p1 - 1)) rfl km_X4_drinks (hm_X4_drinks) ⟨"RainCover$Crop", "drinks", "(I)I"⟩ "RainCover$Crop" rfl (by decide) (fun _ _ => e7) w_methodLink_RainCover_Crop_27 w_sameMethod_RainCover_Crop_RainCover_Crop_drinks__I_I w_instanceMethod_RainCover_Grain_drinks__I_I w_selects_RainCover_Grain_RainCover_Crop_drinks__I_I_RainCover_Grain_drinks__I_I (Or.inr ⟨w_instanceMethod_RainCover_Crop_drinks__I_I, _, _, _, w_code_RainCover_Crop_drinks__I_I⟩) (by decide +kernel) ⟨⟨by decide, by decide⟩, ⟨by decide, by decide⟩⟩ (Nat.le_of_ble_eq_true rfl) J4
          · refine a_br (fun e8 => ?_) (fun e8 => ?_)
            · exact a_cU_Si (r := p0) (ci := 6) (as := [.int (p1 - 1)]) (st := [.int q2.1]) dX1_yields_15 (c_X4_drinks l g q2.2 p0 (p1 - 1)) rfl km_X4_drinks (hm_X4_drinks) ⟨"RainCover$Crop", "drinks", "(I)I"⟩ "RainCover$Crop" rfl (by decide) (fun _ _ => e8) w_methodLink_RainCover_Crop_27 w_sameMethod_RainCover_Crop_RainCover_Crop_drinks__I_I w_instanceMethod_RainCover_Grain_drinks__I_I w_selects_RainCover_Maize_RainCover_Crop_drinks__I_I_RainCover_Grain_drinks__I_I (Or.inr ⟨w_instanceMethod_RainCover_Crop_drinks__I_I, _, _, _, w_code_RainCover_Crop_drinks__I_I⟩) (by decide +kernel) ⟨⟨by decide, by decide⟩, ⟨by decide, by decide⟩⟩ (Nat.le_of_ble_eq_true rfl) J4
            · exact a_nb
    refine a_br (fun e10 => ?_) (fun e10 => ?_)
    · exact a_cU_Si (r := p0) (ci := 1) (as := [.int p1]) (st := []) dX1_yields_8 (c_X0_wilts l g q1 p0 p1) rfl km_X0_wilts (hm_X0_wilts) ⟨"RainCover$Crop", "wilts", "(I)I"⟩ "RainCover$Crop" rfl (by decide) (fun _ _ => e10) w_methodLink_RainCover_Crop_31 w_sameMethod_RainCover_Crop_RainCover_Crop_wilts__I_I w_instanceMethod_RainCover_Bean_wilts__I_I w_selects_RainCover_Bean_RainCover_Crop_wilts__I_I_RainCover_Bean_wilts__I_I (Or.inr ⟨w_instanceMethod_RainCover_Crop_wilts__I_I, _, _, _, w_code_RainCover_Crop_wilts__I_I⟩) (by decide +kernel) ⟨⟨by decide, by decide⟩, ⟨by decide, by decide⟩⟩ (Nat.le_of_ble_eq_true rfl) J9
    · refine a_br (fun e11 => ?_) (fun e11 => ?_)
      · exact a_cV_Si (r := p0) (ci := 2) (as := [.int p1]) (st := []) dX1_yields_8 (c_X1_wilts l g q1 p0 p1) rfl km_X1_wilts (hm_X1_wilts) rfl (by decide) rfl (fun _ _ => e11) w_methodLink_RainCover_Crop_31 w_instanceMethod_RainCover_Crop_wilts__I_I w_selects_RainCover_Crop_RainCover_Crop_wilts__I_I_RainCover_Crop_wilts__I_I ⟨⟨by decide, by decide⟩, ⟨by decide, by decide⟩⟩ (Nat.le_of_ble_eq_true rfl) J9
      · refine a_br (fun e12 => ?_) (fun e12 => ?_)
        · exact a_cU_Si (r := p0) (ci := 5) (as := [.int p1]) (st := []) dX1_yields_8 (c_X1_wilts l g q1 p0 p1) rfl km_X1_wilts (hm_X1_wilts) ⟨"RainCover$Crop", "wilts", "(I)I"⟩ "RainCover$Crop" rfl (by decide) (fun _ _ => e12) w_methodLink_RainCover_Crop_31 w_sameMethod_RainCover_Crop_RainCover_Crop_wilts__I_I w_instanceMethod_RainCover_Crop_wilts__I_I w_selects_RainCover_Grain_RainCover_Crop_wilts__I_I_RainCover_Crop_wilts__I_I (Or.inl rfl) (by decide +kernel) ⟨⟨by decide, by decide⟩, ⟨by decide, by decide⟩⟩ (Nat.le_of_ble_eq_true rfl) J9
        · refine a_br (fun e13 => ?_) (fun e13 => ?_)
          · exact a_cU_Si (r := p0) (ci := 6) (as := [.int p1]) (st := []) dX1_yields_8 (c_X5_wilts l g q1 p0 p1) rfl km_X5_wilts (hm_X5_wilts) ⟨"RainCover$Crop", "wilts", "(I)I"⟩ "RainCover$Crop" rfl (by decide) (fun _ _ => e13) w_methodLink_RainCover_Crop_31 w_sameMethod_RainCover_Crop_RainCover_Crop_wilts__I_I w_instanceMethod_RainCover_Maize_wilts__I_I w_selects_RainCover_Maize_RainCover_Crop_wilts__I_I_RainCover_Maize_wilts__I_I (Or.inr ⟨w_instanceMethod_RainCover_Crop_wilts__I_I, _, _, _, w_code_RainCover_Crop_wilts__I_I⟩) (by decide +kernel) ⟨⟨by decide, by decide⟩, ⟨by decide, by decide⟩⟩ (Nat.le_of_ble_eq_true rfl) J9
          · exact a_nb
  refine a_br (fun e15 => ?_) (fun e15 => ?_)
  · exact a_cU_Sv (r := p0) (ci := 1) (as := [.int 12]) (st := []) dX1_yields_3 (c_X1_runs l g h0 p0 12) rfl km_X1_runs (hm_X1_runs) ⟨"RainCover$Crop", "runs", "(I)V"⟩ "RainCover$Crop" rfl (by decide) (fun _ _ => e15) w_methodLink_RainCover_Crop_23 w_sameMethod_RainCover_Crop_RainCover_Crop_runs__I_V w_instanceMethod_RainCover_Crop_runs__I_V w_selects_RainCover_Bean_RainCover_Crop_runs__I_V_RainCover_Crop_runs__I_V (Or.inl rfl) (by decide +kernel) ⟨⟨by decide, by decide⟩, ⟨by decide, by decide⟩⟩ (Nat.le_of_ble_eq_true rfl) J14
  · refine a_br (fun e16 => ?_) (fun e16 => ?_)
    · exact a_cV_Sv (r := p0) (ci := 2) (as := [.int 12]) (st := []) dX1_yields_3 (c_X1_runs l g h0 p0 12) rfl km_X1_runs (hm_X1_runs) rfl (by decide) rfl (fun _ _ => e16) w_methodLink_RainCover_Crop_23 w_instanceMethod_RainCover_Crop_runs__I_V w_selects_RainCover_Crop_RainCover_Crop_runs__I_V_RainCover_Crop_runs__I_V ⟨⟨by decide, by decide⟩, ⟨by decide, by decide⟩⟩ (Nat.le_of_ble_eq_true rfl) J14
    · refine a_br (fun e17 => ?_) (fun e17 => ?_)
      · exact a_cU_Sv (r := p0) (ci := 5) (as := [.int 12]) (st := []) dX1_yields_3 (c_X1_runs l g h0 p0 12) rfl km_X1_runs (hm_X1_runs) ⟨"RainCover$Crop", "runs", "(I)V"⟩ "RainCover$Crop" rfl (by decide) (fun _ _ => e17) w_methodLink_RainCover_Crop_23 w_sameMethod_RainCover_Crop_RainCover_Crop_runs__I_V w_instanceMethod_RainCover_Crop_runs__I_V w_selects_RainCover_Grain_RainCover_Crop_runs__I_V_RainCover_Crop_runs__I_V (Or.inl rfl) (by decide +kernel) ⟨⟨by decide, by decide⟩, ⟨by decide, by decide⟩⟩ (Nat.le_of_ble_eq_true rfl) J14
      · refine a_br (fun e18 => ?_) (fun e18 => ?_)
        · exact a_cU_Sv (r := p0) (ci := 6) (as := [.int 12]) (st := []) dX1_yields_3 (c_X1_runs l g h0 p0 12) rfl km_X1_runs (hm_X1_runs) ⟨"RainCover$Crop", "runs", "(I)V"⟩ "RainCover$Crop" rfl (by decide) (fun _ _ => e18) w_methodLink_RainCover_Crop_23 w_sameMethod_RainCover_Crop_RainCover_Crop_runs__I_V w_instanceMethod_RainCover_Crop_runs__I_V w_selects_RainCover_Maize_RainCover_Crop_runs__I_V_RainCover_Crop_runs__I_V (Or.inl rfl) (by decide +kernel) ⟨⟨by decide, by decide⟩, ⟨by decide, by decide⟩⟩ (Nat.le_of_ble_eq_true rfl) J14
        · exact a_nb
theorem dX5_yields_0 : decode cX5_yields 0 = .ok (.aload_n 0, 1) := by decide +kernel
theorem dX5_yields_1 : decode cX5_yields 1 = .ok (.bipush 31, 2) := by decide +kernel
theorem dX5_yields_3 : decode cX5_yields 3 = .ok (.invokevirtual 7, 3) := by decide +kernel
theorem dX5_yields_6 : decode cX5_yields 6 = .ok (.aload_n 0, 1) := by decide +kernel
theorem dX5_yields_7 : decode cX5_yields 7 = .ok (.iload_n 1, 1) := by decide +kernel
theorem dX5_yields_8 : decode cX5_yields 8 = .ok (.iconst 2, 1) := by decide +kernel
theorem dX5_yields_9 : decode cX5_yields 9 = .ok (.iadd, 1) := by decide +kernel
theorem dX5_yields_10 : decode cX5_yields 10 = .ok (.invokespecial 17, 3) := by decide +kernel
theorem dX5_yields_13 : decode cX5_yields 13 = .ok (.ireturn, 1) := by decide +kernel
abbrev M_X5_yields : MI := (RX5, cX5_yields, 2, (some .int), ({ frames := 6, cells := 0, slots := 0, locals := 126 } : Room), 0, 0, false)
def f_X5_yields (h0 : AH) (p0 : Nat) (p1 : Int32) : Option (Int32 × AH) := if kd h0 p0 = 6 + 1 then (if kd h0 p0 = 7 then f_X1_runs h0 p0 31 else none).bind fun q1 => (if kd q1 p0 = 7 then f_X1_yields q1 p0 (p1 + 2) else none).bind fun q2 => some (q2.1, q2.2) else none
theorem g_X5_yields {h0 : AH} {p0 : Nat} {p1 : Int32} {x : (Int32 × AH)} (e : f_X5_yields h0 p0 p1 = some x) : kd h0 p0 = 6 + 1 := by
  unfold f_X5_yields at e
  by_cases hk : kd h0 p0 = 6 + 1
  · exact hk
  · rw [if_neg hk] at e
    cases e
theorem km_X5_yields : KM yX5_yields M_X5_yields 1 := ⟨in_tb 1144 (by decide +kernel) rfl, in_tb 24 (by decide +kernel) rfl, by decide +kernel, rfl, rfl⟩
theorem hm_X5_yields : M_X5_yields.2.2.2.2.2.1 = 0 ∧ M_X5_yields.2.2.2.2.2.2.1 = 0 := ⟨rfl, rfl⟩
section
variable {l : Launch} {g : GG}
end
set_option maxRecDepth 100000 in
set_option maxHeartbeats 4000000 in
theorem c_X5_yields (l : Launch) (g : GG) (h0 : AH) (p0 : Nat) (p1 : Int32) : CN l g yX5_yields M_X5_yields false [.ref p0, .int p1] h0 rSi (f_X5_yields h0 p0 p1) := by
  refine CN.of (by decide) rfl (fun hh => by first | rfl | cases hh) (Nat.le_of_ble_eq_true rfl) ?_
  unfold f_X5_yields
  refine a_gd (fun hkd => ?_)
  refine a_aload_n dX5_yields_0 rfl 0 rfl ?_
  refine a_bipush (v := 31) dX5_yields_1 (by decide) ?_
  have J5 : ∀ (q1 : AH), AO l g M_X5_yields false h0 6 [(0, .ref p0), (1, .int p1)] [] q1 0 0 rSi ((if kd q1 p0 = 7 then f_X1_yields q1 p0 (p1 + 2) else none).bind fun q2 => some (q2.1, q2.2)) := by
    intro q1
    refine a_aload_n dX5_yields_6 rfl 0 rfl ?_
    refine a_iload_n dX5_yields_7 rfl 1 rfl ?_
    refine a_iconst (v := 2) dX5_yields_8 (by decide) ?_
    refine a_iadd dX5_yields_9 ?_
    have J3 : ∀ (q2 : Int32 × AH), AO l g M_X5_yields false h0 13 [(0, .ref p0), (1, .int p1)] [.int q2.1] q2.2 0 0 rSi (some (q2.1, q2.2)) := by
      intro q2
      exact a_iret dX5_yields_13 rfl rfl (by decide) (by decide)
    refine a_br (fun e4 => ?_) (fun e4 => ?_)
    · exact a_cX_Si (r := p0) (ci := 6) (as := [.int (p1 + 2)]) (st := []) dX5_yields_10 (c_X1_yields l g q1 p0 (p1 + 2)) rfl km_X1_yields (hm_X1_yields) ⟨"RainCover$Grain", "yields", "(I)I"⟩ "RainCover$Crop" rfl (by decide) (fun _ _ => e4) w_methodLink_RainCover_Maize_17 w_sameMethod_RainCover_Grain_RainCover_Crop_yields__I_I w_superclass_RainCover_Maize_RainCover_Grain (Or.inr w_superclass_RainCover_Grain_RainCover_Crop) rfl w_instanceMethod_RainCover_Crop_yields__I_I (by decide) ⟨⟨by decide, by decide⟩, ⟨by decide, by decide⟩⟩ (Nat.le_of_ble_eq_true rfl) J3
    · exact a_nb
  refine a_br (fun e6 => ?_) (fun e6 => ?_)
  · exact a_cU_Sv (r := p0) (ci := 6) (as := [.int 31]) (st := []) dX5_yields_3 (c_X1_runs l g h0 p0 31) rfl km_X1_runs (hm_X1_runs) ⟨"RainCover$Maize", "runs", "(I)V"⟩ "RainCover$Crop" rfl (by decide) (fun _ _ => e6) w_methodLink_RainCover_Maize_7 w_sameMethod_RainCover_Maize_RainCover_Crop_runs__I_V w_instanceMethod_RainCover_Crop_runs__I_V w_selects_RainCover_Maize_RainCover_Maize_runs__I_V_RainCover_Crop_runs__I_V (Or.inl rfl) (by decide +kernel) ⟨⟨by decide, by decide⟩, ⟨by decide, by decide⟩⟩ (Nat.le_of_ble_eq_true rfl) J5
  · exact a_nb
theorem dX11_act_0 : decode cX11_act 0 = .ok (.aload_n 0, 1) := by decide +kernel
theorem dX11_act_1 : decode cX11_act 1 = .ok (.aconst_null, 1) := by decide +kernel
theorem dX11_act_2 : decode cX11_act 2 = .ok (.putfield 80, 3) := by decide +kernel
theorem dX11_act_5 : decode cX11_act 5 = .ok (.aload_n 0, 1) := by decide +kernel
theorem dX11_act_6 : decode cX11_act 6 = .ok (.iload_n 1, 1) := by decide +kernel
theorem dX11_act_7 : decode cX11_act 7 = .ok (.invokevirtual 254, 3) := by decide +kernel
theorem dX11_act_10 : decode cX11_act 10 = .ok (.ifCond .eq 12, 3) := by decide +kernel
theorem dX11_act_13 : decode cX11_act 13 = .ok (.iload_n 2, 1) := by decide +kernel
theorem dX11_act_14 : decode cX11_act 14 = .ok (.iconst 0, 1) := by decide +kernel
theorem dX11_act_15 : decode cX11_act 15 = .ok (.iconst 2, 1) := by decide +kernel
theorem dX11_act_16 : decode cX11_act 16 = .ok (.invokestatic 120, 3) := by decide +kernel
theorem dX11_act_19 : decode cX11_act 19 = .ok (.ifCond .ne 5, 3) := by decide +kernel
theorem dX11_act_22 : decode cX11_act 22 = .ok (.iconst 0, 1) := by decide +kernel
theorem dX11_act_23 : decode cX11_act 23 = .ok (.ireturn, 1) := by decide +kernel
theorem dX11_act_24 : decode cX11_act 24 = .ok (.aload_n 0, 1) := by decide +kernel
theorem dX11_act_25 : decode cX11_act 25 = .ok (.aload_n 0, 1) := by decide +kernel
theorem dX11_act_26 : decode cX11_act 26 = .ok (.getfield 21, 3) := by decide +kernel
theorem dX11_act_29 : decode cX11_act 29 = .ok (.iload_n 1, 1) := by decide +kernel
theorem dX11_act_30 : decode cX11_act 30 = .ok (.invokevirtual 124, 3) := by decide +kernel
theorem dX11_act_33 : decode cX11_act 33 = .ok (.checkcast 233, 3) := by decide +kernel
theorem dX11_act_36 : decode cX11_act 36 = .ok (.getfield 312, 3) := by decide +kernel
theorem dX11_act_39 : decode cX11_act 39 = .ok (.putfield 80, 3) := by decide +kernel
theorem dX11_act_42 : decode cX11_act 42 = .ok (.aload_n 0, 1) := by decide +kernel
theorem dX11_act_43 : decode cX11_act 43 = .ok (.getfield 80, 3) := by decide +kernel
theorem dX11_act_46 : decode cX11_act 46 = .ok (.iconst 0, 1) := by decide +kernel
theorem dX11_act_47 : decode cX11_act 47 = .ok (.putfield 463, 3) := by decide +kernel
theorem dX11_act_50 : decode cX11_act 50 = .ok (.iload_n 2, 1) := by decide +kernel
theorem dX11_act_51 : decode cX11_act 51 = .ok (.lookupswitch 43 #[(0, 25), (1, 34)], 25) := by decide +kernel
theorem dX11_act_76 : decode cX11_act 76 = .ok (.aload_n 0, 1) := by decide +kernel
theorem dX11_act_77 : decode cX11_act 77 = .ok (.getfield 80, 3) := by decide +kernel
theorem dX11_act_80 : decode cX11_act 80 = .ok (.iload_n 3, 1) := by decide +kernel
theorem dX11_act_81 : decode cX11_act 81 = .ok (.invokevirtual 466, 3) := by decide +kernel
theorem dX11_act_84 : decode cX11_act 84 = .ok (.ireturn, 1) := by decide +kernel
theorem dX11_act_85 : decode cX11_act 85 = .ok (.aload_n 0, 1) := by decide +kernel
theorem dX11_act_86 : decode cX11_act 86 = .ok (.getfield 80, 3) := by decide +kernel
theorem dX11_act_89 : decode cX11_act 89 = .ok (.iload_n 3, 1) := by decide +kernel
theorem dX11_act_90 : decode cX11_act 90 = .ok (.invokevirtual 469, 3) := by decide +kernel
theorem dX11_act_93 : decode cX11_act 93 = .ok (.ireturn, 1) := by decide +kernel
theorem dX11_act_94 : decode cX11_act 94 = .ok (.aload_n 0, 1) := by decide +kernel
theorem dX11_act_95 : decode cX11_act 95 = .ok (.getfield 80, 3) := by decide +kernel
theorem dX11_act_98 : decode cX11_act 98 = .ok (.iload_n 3, 1) := by decide +kernel
theorem dX11_act_99 : decode cX11_act 99 = .ok (.invokevirtual 472, 3) := by decide +kernel
theorem dX11_act_102 : decode cX11_act 102 = .ok (.ireturn, 1) := by decide +kernel
abbrev M_X11_act : MI := (RX11, cX11_act, 4, (some .int), ({ frames := 7, cells := 0, slots := 0, locals := 147 } : Room), 0, 0, false)
def f_X11_act (h0 : AH) (p0 : Nat) (p1 : Int32) (p2 : Int32) (p3 : Int32) : Option (Int32 × AH) := if kd h0 p0 = 12 + 1 then (xpn h0 p0 12 15 ).bind fun h1 => (f_X11_isFarm h1 p0 p1).bind fun v2 => (if v2 = 0 then some (0, h1) else (f_X11_within h1 p2 0 2).bind fun v4 => (if v4 = 0 then some (0, h1) else (xgr h1 p0 12 2).bind fun v6 => (f_Jx4a65c_get_915e3 h1 v6 p1).bind fun v7 => (xcc h1 v7 3).bind fun _ => (xgr h1 v7 3 4).bind fun v8 => (xpr h1 p0 12 15 v8).bind fun h9 => (xgn h9 p0 12 15).bind fun v10 => v10.elim (none) fun w11 => (xpc h9 w11 3 0).bind fun h12 => (if p2 = 0 then (xgn h12 p0 12 15).bind fun v14 => v14.elim (none) fun w15 => (if kd h12 w15 = 2 then f_X0_drinks h12 w15 p3 else if kd h12 w15 = 3 then f_X1_drinks h12 w15 p3 else if kd h12 w15 = 6 then f_X4_drinks h12 w15 p3 else if kd h12 w15 = 7 then f_X4_drinks h12 w15 p3 else none).bind fun q16 => some (q16.1, q16.2) else (if p2 = 1 then (xgn h12 p0 12 15).bind fun v23 => v23.elim (none) fun w24 => (if kd h12 w24 = 2 then f_X0_wilts h12 w24 p3 else if kd h12 w24 = 3 then f_X1_wilts h12 w24 p3 else if kd h12 w24 = 6 then f_X1_wilts h12 w24 p3 else if kd h12 w24 = 7 then f_X5_wilts h12 w24 p3 else none).bind fun q25 => some (q25.1, q25.2) else (xgn h12 p0 12 15).bind fun v31 => v31.elim (none) fun w32 => (if kd h12 w32 = 2 then f_X1_yields h12 w32 p3 else if kd h12 w32 = 3 then f_X1_yields h12 w32 p3 else if kd h12 w32 = 6 then f_X1_yields h12 w32 p3 else if kd h12 w32 = 7 then f_X5_yields h12 w32 p3 else none).bind fun q33 => some (q33.1, q33.2))))) else none
theorem g_X11_act {h0 : AH} {p0 : Nat} {p1 : Int32} {p2 : Int32} {p3 : Int32} {x : (Int32 × AH)} (e : f_X11_act h0 p0 p1 p2 p3 = some x) : kd h0 p0 = 12 + 1 := by
  unfold f_X11_act at e
  by_cases hk : kd h0 p0 = 12 + 1
  · exact hk
  · rw [if_neg hk] at e
    cases e
theorem km_X11_act : KM yX11_act M_X11_act 3 := ⟨in_tb 1090 (by decide +kernel) rfl, in_tb 1 (by decide +kernel) rfl, by decide +kernel, rfl, rfl⟩
theorem hm_X11_act : M_X11_act.2.2.2.2.2.1 = 0 ∧ M_X11_act.2.2.2.2.2.2.1 = 0 := ⟨rfl, rfl⟩
section
variable {l : Launch} {g : GG}
end
set_option maxRecDepth 100000 in
set_option maxHeartbeats 4000000 in
theorem c_X11_act (l : Launch) (g : GG) (h0 : AH) (p0 : Nat) (p1 : Int32) (p2 : Int32) (p3 : Int32) : CN l g yX11_act M_X11_act false [.ref p0, .int p1, .int p2, .int p3] h0 rSi (f_X11_act h0 p0 p1 p2 p3) := by
  refine CN.of (by decide) rfl (fun hh => by first | rfl | cases hh) (Nat.le_of_ble_eq_true rfl) ?_
  unfold f_X11_act
  refine a_gd (fun hkd => ?_)
  refine a_aload_n dX11_act_0 rfl 0 rfl ?_
  refine a_null dX11_act_1 ?_
  refine a_putn (x := ()) kc12 15 dX11_act_2 (by decide) rfl w_fieldLink_RainCover_80 ⟨rfl, rfl⟩ rfl (fun h1 => ?_)
  refine a_aload_n dX11_act_5 rfl 0 rfl ?_
  refine a_iload_n dX11_act_6 rfl 1 rfl ?_
  refine a_cV_Pi (r := p0) (ci := 12) (as := [.int p1]) (st := []) dX11_act_7 (c_X11_isFarm l g h1 p0 p1) rfl km_X11_isFarm (hm_X11_isFarm) rfl (by decide) rfl (fun _ ee => g_X11_isFarm ee) w_methodLink_RainCover_254 w_instanceMethod_RainCover_isFarm__I_Z w_selects_RainCover_RainCover_isFarm__I_Z_RainCover_isFarm__I_Z ⟨⟨by decide, by decide⟩, ⟨by decide, by decide⟩⟩ (Nat.le_of_ble_eq_true rfl) (fun v2 => ?_)
  refine a_if_eq 22 dX11_act_10 (by decide) (fun c3 => ?_) (fun c3 => ?_)
  · refine a_iconst (v := 0) dX11_act_22 (by decide) ?_
    exact a_iret dX11_act_23 rfl rfl (by decide) (by decide)
  · refine a_iload_n dX11_act_13 rfl 2 rfl ?_
    refine a_iconst (v := 0) dX11_act_14 (by decide) ?_
    refine a_iconst (v := 2) dX11_act_15 (by decide) ?_
    refine a_cS_Pi (as := [.int p2, .int 0, .int 2]) (st := []) dX11_act_16 (c_X11_within l g h1 p2 0 2) rfl km_X11_within (hm_X11_within) w_methodLink_RainCover_120 w_static_RainCover_within__III_Z ⟨⟨by decide, by decide⟩, ⟨by decide, by decide⟩⟩ (Nat.le_of_ble_eq_true rfl) (fun v4 => ?_)
    refine a_if_ne 24 dX11_act_19 (by decide) (fun c5 => ?_) (fun c5 => ?_)
    · refine a_iconst (v := 0) dX11_act_22 (by decide) ?_
      exact a_iret dX11_act_23 rfl rfl (by decide) (by decide)
    · refine a_aload_n dX11_act_24 rfl 0 rfl ?_
      refine a_aload_n dX11_act_25 rfl 0 rfl ?_
      refine a_getr kc12 2 dX11_act_26 (by decide) rfl w_fieldLink_RainCover_21 (fun v6 => ?_)
      refine a_iload_n dX11_act_29 rfl 1 rfl ?_
      refine a_cV_Pr (r := v6) (ci := 0) (as := [.int p1]) (st := [.ref p0]) dX11_act_30 (c_Jx4a65c_get_915e3 l g h1 v6 p1) rfl km_Jx4a65c_get_915e3 (hm_Jx4a65c_get_915e3) rfl (by decide) rfl (fun _ ee => g_Jx4a65c_get_915e3 ee) w_methodLink_RainCover_124 w_instanceMethod_java_util_ArrayList_get__I_Ljava_lang_Object_ w_selects_java_util_ArrayList_java_util_ArrayList_get__I_Ljava_lang_Object__java_util_ArrayList_get__I_Ljava_lang_Object_ ⟨⟨by decide, by decide⟩, ⟨by decide, by decide⟩⟩ (Nat.le_of_ble_eq_true rfl) (fun v7 => ?_)
      refine a_cast kc3 dX11_act_33 w_classLink_RainCover_233 ?_
      refine a_getr kc3 4 dX11_act_36 (by decide) rfl w_fieldLink_RainCover_312 (fun v8 => ?_)
      refine a_putr kc12 15 dX11_act_39 (by decide) rfl w_fieldLink_RainCover_80 (fun _ => ⟨rfl, rfl⟩) rfl (fun h9 => ?_)
      refine a_aload_n dX11_act_42 rfl 0 rfl ?_
      refine a_getn kc12 15 dX11_act_43 (by decide) rfl w_fieldLink_RainCover_80 (fun v10 => ?_)
      refine a_opt ?_ (fun w11 => ?_)
      · refine a_iconst (v := 0) dX11_act_46 (by decide) ?_
        exact a_none
      · refine a_iconst (v := 0) dX11_act_46 (by decide) ?_
        refine a_pc3 dX11_act_47 w_fieldLink_RainCover_463 (fun h12 => ?_)
        refine a_iload_n dX11_act_50 rfl 2 rfl ?_
        refine a_swl (v := 0) 76 dX11_act_51 (by decide) (by decide) (fun c13 => ?_) (fun c13 => ?_)
        · refine a_aload_n dX11_act_76 rfl 0 rfl ?_
          refine a_getn kc12 15 dX11_act_77 (by decide) rfl w_fieldLink_RainCover_80 (fun v14 => ?_)
          refine a_opt ?_ (fun w15 => ?_)
          · refine a_iload_n dX11_act_80 rfl 3 rfl ?_
            exact a_none
          · refine a_iload_n dX11_act_80 rfl 3 rfl ?_
            have J17 : ∀ (q16 : Int32 × AH), AO l g M_X11_act false h0 84 [(0, .ref p0), (1, .int p1), (2, .int p2), (3, .int p3)] [.int q16.1] q16.2 0 0 rSi (some (q16.1, q16.2)) := by
              intro q16
              exact a_iret dX11_act_84 rfl rfl (by decide) (by decide)
            refine a_br (fun e18 => ?_) (fun e18 => ?_)
            · exact a_cU_Si (r := w15) (ci := 1) (as := [.int p3]) (st := []) dX11_act_81 (c_X0_drinks l g h12 w15 p3) rfl km_X0_drinks (hm_X0_drinks) ⟨"RainCover$Crop", "drinks", "(I)I"⟩ "RainCover$Crop" rfl (by decide) (fun _ _ => e18) w_methodLink_RainCover_466 w_sameMethod_RainCover_Crop_RainCover_Crop_drinks__I_I w_instanceMethod_RainCover_Bean_drinks__I_I w_selects_RainCover_Bean_RainCover_Crop_drinks__I_I_RainCover_Bean_drinks__I_I (Or.inr ⟨w_instanceMethod_RainCover_Crop_drinks__I_I, _, _, _, w_code_RainCover_Crop_drinks__I_I⟩) (by decide +kernel) ⟨⟨by decide, by decide⟩, ⟨by decide, by decide⟩⟩ (Nat.le_of_ble_eq_true rfl) J17
            · refine a_br (fun e19 => ?_) (fun e19 => ?_)
              · exact a_cV_Si (r := w15) (ci := 2) (as := [.int p3]) (st := []) dX11_act_81 (c_X1_drinks l g h12 w15 p3) rfl km_X1_drinks (hm_X1_drinks) rfl (by decide) rfl (fun _ _ => e19) w_methodLink_RainCover_466 w_instanceMethod_RainCover_Crop_drinks__I_I w_selects_RainCover_Crop_RainCover_Crop_drinks__I_I_RainCover_Crop_drinks__I_I ⟨⟨by decide, by decide⟩, ⟨by decide, by decide⟩⟩ (Nat.le_of_ble_eq_true rfl) J17
              · refine a_br (fun e20 => ?_) (fun e20 => ?_)
                · exact a_cU_Si (r := w15) (ci := 5) (as := [.int p3]) (st := []) dX11_act_81 (c_X4_drinks l g h12 w15 p3) rfl km_X4_drinks (hm_X4_drinks) ⟨"RainCover$Crop", "drinks", "(I)I"⟩ "RainCover$Crop" rfl (by decide) (fun _ _ => e20) w_methodLink_RainCover_466 w_sameMethod_RainCover_Crop_RainCover_Crop_drinks__I_I w_instanceMethod_RainCover_Grain_drinks__I_I w_selects_RainCover_Grain_RainCover_Crop_drinks__I_I_RainCover_Grain_drinks__I_I (Or.inr ⟨w_instanceMethod_RainCover_Crop_drinks__I_I, _, _, _, w_code_RainCover_Crop_drinks__I_I⟩) (by decide +kernel) ⟨⟨by decide, by decide⟩, ⟨by decide, by decide⟩⟩ (Nat.le_of_ble_eq_true rfl) J17
                · refine a_br (fun e21 => ?_) (fun e21 => ?_)
                  · exact a_cU_Si (r := w15) (ci := 6) (as := [.int p3]) (st := []) dX11_act_81 (c_X4_drinks l g h12 w15 p3) rfl km_X4_drinks (hm_X4_drinks) ⟨"RainCover$Crop", "drinks", "(I)I"⟩ "RainCover$Crop" rfl (by decide) (fun _ _ => e21) w_methodLink_RainCover_466 w_sameMethod_RainCover_Crop_RainCover_Crop_drinks__I_I w_instanceMethod_RainCover_Grain_drinks__I_I w_selects_RainCover_Maize_RainCover_Crop_drinks__I_I_RainCover_Grain_drinks__I_I (Or.inr ⟨w_instanceMethod_RainCover_Crop_drinks__I_I, _, _, _, w_code_RainCover_Crop_drinks__I_I⟩) (by decide +kernel) ⟨⟨by decide, by decide⟩, ⟨by decide, by decide⟩⟩ (Nat.le_of_ble_eq_true rfl) J17
                  · exact a_nb
        refine a_swl (v := 1) 85 dX11_act_51 (by decide) (by decide) (fun c22 => ?_) (fun c22 => ?_)
        · refine a_aload_n dX11_act_85 rfl 0 rfl ?_
          refine a_getn kc12 15 dX11_act_86 (by decide) rfl w_fieldLink_RainCover_80 (fun v23 => ?_)
          refine a_opt ?_ (fun w24 => ?_)
          · refine a_iload_n dX11_act_89 rfl 3 rfl ?_
            exact a_none
          · refine a_iload_n dX11_act_89 rfl 3 rfl ?_
            have J26 : ∀ (q25 : Int32 × AH), AO l g M_X11_act false h0 93 [(0, .ref p0), (1, .int p1), (2, .int p2), (3, .int p3)] [.int q25.1] q25.2 0 0 rSi (some (q25.1, q25.2)) := by
              intro q25
              exact a_iret dX11_act_93 rfl rfl (by decide) (by decide)
            refine a_br (fun e27 => ?_) (fun e27 => ?_)
            · exact a_cU_Si (r := w24) (ci := 1) (as := [.int p3]) (st := []) dX11_act_90 (c_X0_wilts l g h12 w24 p3) rfl km_X0_wilts (hm_X0_wilts) ⟨"RainCover$Crop", "wilts", "(I)I"⟩ "RainCover$Crop" rfl (by decide) (fun _ _ => e27) w_methodLink_RainCover_469 w_sameMethod_RainCover_Crop_RainCover_Crop_wilts__I_I w_instanceMethod_RainCover_Bean_wilts__I_I w_selects_RainCover_Bean_RainCover_Crop_wilts__I_I_RainCover_Bean_wilts__I_I (Or.inr ⟨w_instanceMethod_RainCover_Crop_wilts__I_I, _, _, _, w_code_RainCover_Crop_wilts__I_I⟩) (by decide +kernel) ⟨⟨by decide, by decide⟩, ⟨by decide, by decide⟩⟩ (Nat.le_of_ble_eq_true rfl) J26
            · refine a_br (fun e28 => ?_) (fun e28 => ?_)
              · exact a_cV_Si (r := w24) (ci := 2) (as := [.int p3]) (st := []) dX11_act_90 (c_X1_wilts l g h12 w24 p3) rfl km_X1_wilts (hm_X1_wilts) rfl (by decide) rfl (fun _ _ => e28) w_methodLink_RainCover_469 w_instanceMethod_RainCover_Crop_wilts__I_I w_selects_RainCover_Crop_RainCover_Crop_wilts__I_I_RainCover_Crop_wilts__I_I ⟨⟨by decide, by decide⟩, ⟨by decide, by decide⟩⟩ (Nat.le_of_ble_eq_true rfl) J26
              · refine a_br (fun e29 => ?_) (fun e29 => ?_)
                · exact a_cU_Si (r := w24) (ci := 5) (as := [.int p3]) (st := []) dX11_act_90 (c_X1_wilts l g h12 w24 p3) rfl km_X1_wilts (hm_X1_wilts) ⟨"RainCover$Crop", "wilts", "(I)I"⟩ "RainCover$Crop" rfl (by decide) (fun _ _ => e29) w_methodLink_RainCover_469 w_sameMethod_RainCover_Crop_RainCover_Crop_wilts__I_I w_instanceMethod_RainCover_Crop_wilts__I_I w_selects_RainCover_Grain_RainCover_Crop_wilts__I_I_RainCover_Crop_wilts__I_I (Or.inl rfl) (by decide +kernel) ⟨⟨by decide, by decide⟩, ⟨by decide, by decide⟩⟩ (Nat.le_of_ble_eq_true rfl) J26
                · refine a_br (fun e30 => ?_) (fun e30 => ?_)
                  · exact a_cU_Si (r := w24) (ci := 6) (as := [.int p3]) (st := []) dX11_act_90 (c_X5_wilts l g h12 w24 p3) rfl km_X5_wilts (hm_X5_wilts) ⟨"RainCover$Crop", "wilts", "(I)I"⟩ "RainCover$Crop" rfl (by decide) (fun _ _ => e30) w_methodLink_RainCover_469 w_sameMethod_RainCover_Crop_RainCover_Crop_wilts__I_I w_instanceMethod_RainCover_Maize_wilts__I_I w_selects_RainCover_Maize_RainCover_Crop_wilts__I_I_RainCover_Maize_wilts__I_I (Or.inr ⟨w_instanceMethod_RainCover_Crop_wilts__I_I, _, _, _, w_code_RainCover_Crop_wilts__I_I⟩) (by decide +kernel) ⟨⟨by decide, by decide⟩, ⟨by decide, by decide⟩⟩ (Nat.le_of_ble_eq_true rfl) J26
                  · exact a_nb
        refine a_swld (vs := [0, 1]) 94 dX11_act_51 (by decide) (by decide) (List.forall_mem_cons.mpr ⟨c13, List.forall_mem_cons.mpr ⟨c22, fun _ hh => absurd hh List.not_mem_nil⟩⟩) ?_
        refine a_aload_n dX11_act_94 rfl 0 rfl ?_
        refine a_getn kc12 15 dX11_act_95 (by decide) rfl w_fieldLink_RainCover_80 (fun v31 => ?_)
        refine a_opt ?_ (fun w32 => ?_)
        · refine a_iload_n dX11_act_98 rfl 3 rfl ?_
          exact a_none
        · refine a_iload_n dX11_act_98 rfl 3 rfl ?_
          have J34 : ∀ (q33 : Int32 × AH), AO l g M_X11_act false h0 102 [(0, .ref p0), (1, .int p1), (2, .int p2), (3, .int p3)] [.int q33.1] q33.2 0 0 rSi (some (q33.1, q33.2)) := by
            intro q33
            exact a_iret dX11_act_102 rfl rfl (by decide) (by decide)
          refine a_br (fun e35 => ?_) (fun e35 => ?_)
          · exact a_cU_Si (r := w32) (ci := 1) (as := [.int p3]) (st := []) dX11_act_99 (c_X1_yields l g h12 w32 p3) rfl km_X1_yields (hm_X1_yields) ⟨"RainCover$Crop", "yields", "(I)I"⟩ "RainCover$Crop" rfl (by decide) (fun _ _ => e35) w_methodLink_RainCover_472 w_sameMethod_RainCover_Crop_RainCover_Crop_yields__I_I w_instanceMethod_RainCover_Crop_yields__I_I w_selects_RainCover_Bean_RainCover_Crop_yields__I_I_RainCover_Crop_yields__I_I (Or.inl rfl) (by decide +kernel) ⟨⟨by decide, by decide⟩, ⟨by decide, by decide⟩⟩ (Nat.le_of_ble_eq_true rfl) J34
          · refine a_br (fun e36 => ?_) (fun e36 => ?_)
            · exact a_cV_Si (r := w32) (ci := 2) (as := [.int p3]) (st := []) dX11_act_99 (c_X1_yields l g h12 w32 p3) rfl km_X1_yields (hm_X1_yields) rfl (by decide) rfl (fun _ _ => e36) w_methodLink_RainCover_472 w_instanceMethod_RainCover_Crop_yields__I_I w_selects_RainCover_Crop_RainCover_Crop_yields__I_I_RainCover_Crop_yields__I_I ⟨⟨by decide, by decide⟩, ⟨by decide, by decide⟩⟩ (Nat.le_of_ble_eq_true rfl) J34
            · refine a_br (fun e37 => ?_) (fun e37 => ?_)
              · exact a_cU_Si (r := w32) (ci := 5) (as := [.int p3]) (st := []) dX11_act_99 (c_X1_yields l g h12 w32 p3) rfl km_X1_yields (hm_X1_yields) ⟨"RainCover$Crop", "yields", "(I)I"⟩ "RainCover$Crop" rfl (by decide) (fun _ _ => e37) w_methodLink_RainCover_472 w_sameMethod_RainCover_Crop_RainCover_Crop_yields__I_I w_instanceMethod_RainCover_Crop_yields__I_I w_selects_RainCover_Grain_RainCover_Crop_yields__I_I_RainCover_Crop_yields__I_I (Or.inl rfl) (by decide +kernel) ⟨⟨by decide, by decide⟩, ⟨by decide, by decide⟩⟩ (Nat.le_of_ble_eq_true rfl) J34
              · refine a_br (fun e38 => ?_) (fun e38 => ?_)
                · exact a_cU_Si (r := w32) (ci := 6) (as := [.int p3]) (st := []) dX11_act_99 (c_X5_yields l g h12 w32 p3) rfl km_X5_yields (hm_X5_yields) ⟨"RainCover$Crop", "yields", "(I)I"⟩ "RainCover$Crop" rfl (by decide) (fun _ _ => e38) w_methodLink_RainCover_472 w_sameMethod_RainCover_Crop_RainCover_Crop_yields__I_I w_instanceMethod_RainCover_Maize_yields__I_I w_selects_RainCover_Maize_RainCover_Crop_yields__I_I_RainCover_Maize_yields__I_I (Or.inr ⟨w_instanceMethod_RainCover_Crop_yields__I_I, _, _, _, w_code_RainCover_Crop_yields__I_I⟩) (by decide +kernel) ⟨⟨by decide, by decide⟩, ⟨by decide, by decide⟩⟩ (Nat.le_of_ble_eq_true rfl) J34
                · exact a_nb
theorem dX11_trace_0 : decode cX11_trace 0 = .ok (.aload_n 0, 1) := by decide +kernel
theorem dX11_trace_1 : decode cX11_trace 1 = .ok (.getfield 80, 3) := by decide +kernel
theorem dX11_trace_4 : decode cX11_trace 4 = .ok (.ifnull 25, 3) := by decide +kernel
theorem dX11_trace_7 : decode cX11_trace 7 = .ok (.iload_n 1, 1) := by decide +kernel
theorem dX11_trace_8 : decode cX11_trace 8 = .ok (.iconst 0, 1) := by decide +kernel
theorem dX11_trace_9 : decode cX11_trace 9 = .ok (.aload_n 0, 1) := by decide +kernel
theorem dX11_trace_10 : decode cX11_trace 10 = .ok (.getfield 80, 3) := by decide +kernel
theorem dX11_trace_13 : decode cX11_trace 13 = .ok (.getfield 463, 3) := by decide +kernel
theorem dX11_trace_16 : decode cX11_trace 16 = .ok (.bipush 20, 2) := by decide +kernel
theorem dX11_trace_18 : decode cX11_trace 18 = .ok (.invokestatic 340, 3) := by decide +kernel
theorem dX11_trace_21 : decode cX11_trace 21 = .ok (.iconst 1, 1) := by decide +kernel
theorem dX11_trace_22 : decode cX11_trace 22 = .ok (.isub, 1) := by decide +kernel
theorem dX11_trace_23 : decode cX11_trace 23 = .ok (.invokestatic 120, 3) := by decide +kernel
theorem dX11_trace_26 : decode cX11_trace 26 = .ok (.ifCond .ne 5, 3) := by decide +kernel
theorem dX11_trace_29 : decode cX11_trace 29 = .ok (.iconst (-1), 1) := by decide +kernel
theorem dX11_trace_30 : decode cX11_trace 30 = .ok (.ireturn, 1) := by decide +kernel
theorem dX11_trace_31 : decode cX11_trace 31 = .ok (.aload_n 0, 1) := by decide +kernel
theorem dX11_trace_32 : decode cX11_trace 32 = .ok (.getfield 80, 3) := by decide +kernel
theorem dX11_trace_35 : decode cX11_trace 35 = .ok (.getfield 475, 3) := by decide +kernel
theorem dX11_trace_38 : decode cX11_trace 38 = .ok (.iload_n 1, 1) := by decide +kernel
theorem dX11_trace_39 : decode cX11_trace 39 = .ok (.iaload, 1) := by decide +kernel
theorem dX11_trace_40 : decode cX11_trace 40 = .ok (.ireturn, 1) := by decide +kernel
abbrev M_X11_trace : MI := (RX11, cX11_trace, 2, (some .int), ({ frames := 1, cells := 0, slots := 0, locals := 22 } : Room), 0, 0, false)
def f_X11_trace (h : AH) (p0 : Nat) (p1 : Int32) : Option Int32 := if kd h p0 = 12 + 1 then (xgn h p0 12 15).bind fun v1 => v1.elim (some (-1)) fun w2 => (xgn h p0 12 15).bind fun v3 => v3.elim (none) fun w4 => (xgc h w4 3).bind fun v5 => (f_X11_within h p1 0 ((if 20 < v5 then 20 else v5) - 1)).bind fun v6 => (if v6 = 0 then some (-1) else (xgn h p0 12 15).bind fun v8 => v8.elim (none) fun w9 => (xgcr h w9 2).bind fun v10 => (xia h v10 p1).bind fun v11 => some v11) else none
theorem g_X11_trace {h : AH} {p0 : Nat} {p1 : Int32} {x : Int32} (e : f_X11_trace h p0 p1 = some x) : kd h p0 = 12 + 1 := by
  unfold f_X11_trace at e
  by_cases hk : kd h p0 = 12 + 1
  · exact hk
  · rw [if_neg hk] at e
    cases e
theorem km_X11_trace : KM yX11_trace M_X11_trace 1 := ⟨in_tb 1153 (by decide +kernel) rfl, in_tb 1 (by decide +kernel) rfl, by decide +kernel, rfl, rfl⟩
theorem hm_X11_trace : M_X11_trace.2.2.2.2.2.1 = 0 ∧ M_X11_trace.2.2.2.2.2.2.1 = 0 := ⟨rfl, rfl⟩
section
variable {l : Launch} {g : GG}
end
set_option maxRecDepth 100000 in
set_option maxHeartbeats 4000000 in
theorem c_X11_trace (l : Launch) (g : GG) (h : AH) (p0 : Nat) (p1 : Int32) : CN l g yX11_trace M_X11_trace false [.ref p0, .int p1] h ((rPi h)) (f_X11_trace h p0 p1) := by
  refine CN.of (by decide) rfl (fun hh => by first | rfl | cases hh) (Nat.le_of_ble_eq_true rfl) ?_
  unfold f_X11_trace
  refine a_gd (fun hkd => ?_)
  refine a_aload_n dX11_trace_0 rfl 0 rfl ?_
  refine a_getn kc12 15 dX11_trace_1 (by decide) rfl w_fieldLink_RainCover_80 (fun v1 => ?_)
  refine a_opt ?_ (fun w2 => ?_)
  · refine a_ifnullN 29 dX11_trace_4 (by decide) ?_
    refine a_iconst (v := (-1)) dX11_trace_29 (by decide) ?_
    exact a_iret dX11_trace_30 rfl rfl (by decide) (by decide)
  · refine a_ifnull dX11_trace_4 ?_
    refine a_iload_n dX11_trace_7 rfl 1 rfl ?_
    refine a_iconst (v := 0) dX11_trace_8 (by decide) ?_
    refine a_aload_n dX11_trace_9 rfl 0 rfl ?_
    refine a_getn kc12 15 dX11_trace_10 (by decide) rfl w_fieldLink_RainCover_80 (fun v3 => ?_)
    refine a_opt ?_ (fun w4 => ?_)
    · exact a_none
    · refine a_gc3 dX11_trace_13 w_fieldLink_RainCover_463 (fun v5 => ?_)
      refine a_bipush (v := 20) dX11_trace_16 (by decide) ?_
      refine a_mmin dX11_trace_18 w_methodLink_RainCover_340 w_static_java_lang_Math_min__II_I w_initialized_java_lang_Math w_code_java_lang_Math_min__II_I (by decide) (by decide) (by decide) (by decide) (Nat.le_of_ble_eq_true rfl) ?_
      refine a_iconst (v := 1) dX11_trace_21 (by decide) ?_
      refine a_isub dX11_trace_22 ?_
      refine a_cS_Pi (as := [.int p1, .int 0, .int ((if 20 < v5 then 20 else v5) - 1)]) (st := []) dX11_trace_23 (c_X11_within l g h p1 0 ((if 20 < v5 then 20 else v5) - 1)) rfl km_X11_within (hm_X11_within) w_methodLink_RainCover_120 w_static_RainCover_within__III_Z ⟨⟨by decide, by decide⟩, ⟨by decide, by decide⟩⟩ (Nat.le_of_ble_eq_true rfl) (fun v6 => ?_)
      refine a_if_ne 31 dX11_trace_26 (by decide) (fun c7 => ?_) (fun c7 => ?_)
      · refine a_iconst (v := (-1)) dX11_trace_29 (by decide) ?_
        exact a_iret dX11_trace_30 rfl rfl (by decide) (by decide)
      · refine a_aload_n dX11_trace_31 rfl 0 rfl ?_
        refine a_getn kc12 15 dX11_trace_32 (by decide) rfl w_fieldLink_RainCover_80 (fun v8 => ?_)
        refine a_opt ?_ (fun w9 => ?_)
        · exact a_none
        · refine a_gc2 dX11_trace_35 w_fieldLink_RainCover_475 (fun v10 => ?_)
          refine a_iload_n dX11_trace_38 rfl 1 rfl ?_
          refine a_iald dX11_trace_39 (fun v11 => ?_)
          exact a_iret dX11_trace_40 rfl rfl (by decide) (by decide)
theorem dX11_taken_0 : decode cX11_taken 0 = .ok (.iload_n 2, 1) := by decide +kernel
theorem dX11_taken_1 : decode cX11_taken 1 = .ok (.iconst 0, 1) := by decide +kernel
theorem dX11_taken_2 : decode cX11_taken 2 = .ok (.iconst 3, 1) := by decide +kernel
theorem dX11_taken_3 : decode cX11_taken 3 = .ok (.invokestatic 120, 3) := by decide +kernel
theorem dX11_taken_6 : decode cX11_taken 6 = .ok (.ifCond .ne 6, 3) := by decide +kernel
theorem dX11_taken_9 : decode cX11_taken 9 = .ok (.bipush (-2), 2) := by decide +kernel
theorem dX11_taken_11 : decode cX11_taken 11 = .ok (.ireturn, 1) := by decide +kernel
theorem dX11_taken_12 : decode cX11_taken 12 = .ok (.aload_n 0, 1) := by decide +kernel
theorem dX11_taken_13 : decode cX11_taken 13 = .ok (.iload_n 1, 1) := by decide +kernel
theorem dX11_taken_14 : decode cX11_taken 14 = .ok (.invokevirtual 254, 3) := by decide +kernel
theorem dX11_taken_17 : decode cX11_taken 17 = .ok (.ifCond .ne 6, 3) := by decide +kernel
theorem dX11_taken_20 : decode cX11_taken 20 = .ok (.bipush (-11), 2) := by decide +kernel
theorem dX11_taken_22 : decode cX11_taken 22 = .ok (.ireturn, 1) := by decide +kernel
theorem dX11_taken_23 : decode cX11_taken 23 = .ok (.aload_n 0, 1) := by decide +kernel
theorem dX11_taken_24 : decode cX11_taken 24 = .ok (.getfield 21, 3) := by decide +kernel
theorem dX11_taken_27 : decode cX11_taken 27 = .ok (.iload_n 1, 1) := by decide +kernel
theorem dX11_taken_28 : decode cX11_taken 28 = .ok (.invokevirtual 124, 3) := by decide +kernel
theorem dX11_taken_31 : decode cX11_taken 31 = .ok (.checkcast 233, 3) := by decide +kernel
theorem dX11_taken_34 : decode cX11_taken 34 = .ok (.getfield 312, 3) := by decide +kernel
theorem dX11_taken_37 : decode cX11_taken 37 = .ok (.astore_n 3, 1) := by decide +kernel
theorem dX11_taken_38 : decode cX11_taken 38 = .ok (.iload_n 2, 1) := by decide +kernel
theorem dX11_taken_39 : decode cX11_taken 39 = .ok (.tableswitch 52 1 3 #[25, 34, 43], 25) := by decide +kernel
theorem dX11_taken_64 : decode cX11_taken 64 = .ok (.aload_n 3, 1) := by decide +kernel
theorem dX11_taken_65 : decode cX11_taken 65 = .ok (.instanceof 242, 3) := by decide +kernel
theorem dX11_taken_68 : decode cX11_taken 68 = .ok (.istore 4, 2) := by decide +kernel
theorem dX11_taken_70 : decode cX11_taken 70 = .ok (.goto 24, 3) := by decide +kernel
theorem dX11_taken_73 : decode cX11_taken 73 = .ok (.aload_n 3, 1) := by decide +kernel
theorem dX11_taken_74 : decode cX11_taken 74 = .ok (.instanceof 245, 3) := by decide +kernel
theorem dX11_taken_77 : decode cX11_taken 77 = .ok (.istore 4, 2) := by decide +kernel
theorem dX11_taken_79 : decode cX11_taken 79 = .ok (.goto 15, 3) := by decide +kernel
theorem dX11_taken_82 : decode cX11_taken 82 = .ok (.aload_n 3, 1) := by decide +kernel
theorem dX11_taken_83 : decode cX11_taken 83 = .ok (.instanceof 248, 3) := by decide +kernel
theorem dX11_taken_86 : decode cX11_taken 86 = .ok (.istore 4, 2) := by decide +kernel
theorem dX11_taken_88 : decode cX11_taken 88 = .ok (.goto 6, 3) := by decide +kernel
theorem dX11_taken_91 : decode cX11_taken 91 = .ok (.iconst 1, 1) := by decide +kernel
theorem dX11_taken_92 : decode cX11_taken 92 = .ok (.istore 4, 2) := by decide +kernel
theorem dX11_taken_94 : decode cX11_taken 94 = .ok (.iload 4, 2) := by decide +kernel
theorem dX11_taken_96 : decode cX11_taken 96 = .ok (.ifCond .eq 10, 3) := by decide +kernel
theorem dX11_taken_99 : decode cX11_taken 99 = .ok (.aload_n 3, 1) := by decide +kernel
theorem dX11_taken_100 : decode cX11_taken 100 = .ok (.invokevirtual 315, 3) := by decide +kernel
theorem dX11_taken_103 : decode cX11_taken 103 = .ok (.goto 5, 3) := by decide +kernel
theorem dX11_taken_106 : decode cX11_taken 106 = .ok (.bipush (-13), 2) := by decide +kernel
theorem dX11_taken_108 : decode cX11_taken 108 = .ok (.ireturn, 1) := by decide +kernel
abbrev M_X11_taken : MI := (RX11, cX11_taken, 5, (some .int), ({ frames := 3, cells := 0, slots := 0, locals := 64 } : Room), 0, 0, false)
def f_X11_taken_b94 (h : AH) (x3 : Nat) (x4 : Int32) : Option Int32 := (if x4 = 0 then some (-13) else (if kd h x3 = 2 then f_X0_kind h x3 else if kd h x3 = 3 then f_X1_kind h x3 else if kd h x3 = 6 then f_X4_kind h x3 else if kd h x3 = 7 then f_X5_kind h x3 else none).bind fun v15 => some v15)
def f_X11_taken (h : AH) (p0 : Nat) (p1 : Int32) (p2 : Int32) : Option Int32 := if kd h p0 = 12 + 1 then (f_X11_within h p2 0 3).bind fun v1 => (if v1 = 0 then some (-2) else (f_X11_isFarm h p0 p1).bind fun v3 => (if v3 = 0 then some (-11) else (xgr h p0 12 2).bind fun v5 => (f_Jx4a65c_get_915e3 h v5 p1).bind fun v6 => (xcc h v6 3).bind fun _ => (xgr h v6 3 4).bind fun v7 => (if p2 = 1 then (xio h v7 5).bind fun v9 => f_X11_taken_b94 h v7 v9 else (if p2 = 2 then (xio h v7 6).bind fun v11 => f_X11_taken_b94 h v7 v11 else (if p2 = 3 then (xio h v7 1).bind fun v13 => f_X11_taken_b94 h v7 v13 else f_X11_taken_b94 h v7 1))))) else none
theorem g_X11_taken {h : AH} {p0 : Nat} {p1 : Int32} {p2 : Int32} {x : Int32} (e : f_X11_taken h p0 p1 p2 = some x) : kd h p0 = 12 + 1 := by
  unfold f_X11_taken at e
  by_cases hk : kd h p0 = 12 + 1
  · exact hk
  · rw [if_neg hk] at e
    cases e
theorem km_X11_taken : KM yX11_taken M_X11_taken 2 := ⟨in_tb 1157 (by decide +kernel) rfl, in_tb 1 (by decide +kernel) rfl, by decide +kernel, rfl, rfl⟩
theorem hm_X11_taken : M_X11_taken.2.2.2.2.2.1 = 0 ∧ M_X11_taken.2.2.2.2.2.2.1 = 0 := ⟨rfl, rfl⟩
section
variable {l : Launch} {g : GG}
set_option maxRecDepth 100000 in
set_option maxHeartbeats 4000000 in
theorem t_X11_taken_b94 (h : AH) (x3 : Nat) (x4 : Int32) : AO l g M_X11_taken false h 94 [(3, .ref x3), (4, .int x4)] [] h 0 0 (rPi h) (f_X11_taken_b94 h  x3 x4) := by
  unfold f_X11_taken_b94
  refine a_iload dX11_taken_94 1 rfl ?_
  refine a_if_eq 106 dX11_taken_96 (by decide) (fun c14 => ?_) (fun c14 => ?_)
  · refine a_bipush (v := (-13)) dX11_taken_106 (by decide) ?_
    exact a_iret dX11_taken_108 rfl rfl (by decide) (by decide)
  · refine a_aload_n dX11_taken_99 rfl 0 rfl ?_
    have J16 : ∀ (v15 : Int32), AO l g M_X11_taken false h 103 [(3, .ref x3), (4, .int x4)] [.int v15] h 0 0 (rPi h) (some v15) := by
      intro v15
      refine a_goto 108 dX11_taken_103 (by decide) ?_
      exact a_iret dX11_taken_108 rfl rfl (by decide) (by decide)
    refine a_br (fun e17 => ?_) (fun e17 => ?_)
    · exact a_cU_Pi (r := x3) (ci := 1) (as := []) (st := []) dX11_taken_100 (c_X0_kind l g h x3) rfl km_X0_kind (hm_X0_kind) ⟨"RainCover$Crop", "kind", "()I"⟩ "RainCover$Crop" rfl (by decide) (fun _ _ => e17) w_methodLink_RainCover_315 w_sameMethod_RainCover_Crop_RainCover_Crop_kind___I w_instanceMethod_RainCover_Bean_kind___I w_selects_RainCover_Bean_RainCover_Crop_kind___I_RainCover_Bean_kind___I (Or.inr ⟨w_instanceMethod_RainCover_Crop_kind___I, _, _, _, w_code_RainCover_Crop_kind___I⟩) (by decide +kernel) ⟨⟨by decide, by decide⟩, ⟨by decide, by decide⟩⟩ (Nat.le_of_ble_eq_true rfl) J16
    · refine a_br (fun e18 => ?_) (fun e18 => ?_)
      · exact a_cV_Pi (r := x3) (ci := 2) (as := []) (st := []) dX11_taken_100 (c_X1_kind l g h x3) rfl km_X1_kind (hm_X1_kind) rfl (by decide) rfl (fun _ _ => e18) w_methodLink_RainCover_315 w_instanceMethod_RainCover_Crop_kind___I w_selects_RainCover_Crop_RainCover_Crop_kind___I_RainCover_Crop_kind___I ⟨⟨by decide, by decide⟩, ⟨by decide, by decide⟩⟩ (Nat.le_of_ble_eq_true rfl) J16
      · refine a_br (fun e19 => ?_) (fun e19 => ?_)
        · exact a_cU_Pi (r := x3) (ci := 5) (as := []) (st := []) dX11_taken_100 (c_X4_kind l g h x3) rfl km_X4_kind (hm_X4_kind) ⟨"RainCover$Crop", "kind", "()I"⟩ "RainCover$Crop" rfl (by decide) (fun _ _ => e19) w_methodLink_RainCover_315 w_sameMethod_RainCover_Crop_RainCover_Crop_kind___I w_instanceMethod_RainCover_Grain_kind___I w_selects_RainCover_Grain_RainCover_Crop_kind___I_RainCover_Grain_kind___I (Or.inr ⟨w_instanceMethod_RainCover_Crop_kind___I, _, _, _, w_code_RainCover_Crop_kind___I⟩) (by decide +kernel) ⟨⟨by decide, by decide⟩, ⟨by decide, by decide⟩⟩ (Nat.le_of_ble_eq_true rfl) J16
        · refine a_br (fun e20 => ?_) (fun e20 => ?_)
          · exact a_cU_Pi (r := x3) (ci := 6) (as := []) (st := []) dX11_taken_100 (c_X5_kind l g h x3) rfl km_X5_kind (hm_X5_kind) ⟨"RainCover$Crop", "kind", "()I"⟩ "RainCover$Crop" rfl (by decide) (fun _ _ => e20) w_methodLink_RainCover_315 w_sameMethod_RainCover_Crop_RainCover_Crop_kind___I w_instanceMethod_RainCover_Maize_kind___I w_selects_RainCover_Maize_RainCover_Crop_kind___I_RainCover_Maize_kind___I (Or.inr ⟨w_instanceMethod_RainCover_Crop_kind___I, _, _, _, w_code_RainCover_Crop_kind___I⟩) (by decide +kernel) ⟨⟨by decide, by decide⟩, ⟨by decide, by decide⟩⟩ (Nat.le_of_ble_eq_true rfl) J16
          · exact a_nb
end
set_option maxRecDepth 100000 in
set_option maxHeartbeats 4000000 in
theorem c_X11_taken (l : Launch) (g : GG) (h : AH) (p0 : Nat) (p1 : Int32) (p2 : Int32) : CN l g yX11_taken M_X11_taken false [.ref p0, .int p1, .int p2] h ((rPi h)) (f_X11_taken h p0 p1 p2) := by
  refine CN.of (by decide) rfl (fun hh => by first | rfl | cases hh) (Nat.le_of_ble_eq_true rfl) ?_
  unfold f_X11_taken
  refine a_gd (fun hkd => ?_)
  refine a_iload_n dX11_taken_0 rfl 2 rfl ?_
  refine a_iconst (v := 0) dX11_taken_1 (by decide) ?_
  refine a_iconst (v := 3) dX11_taken_2 (by decide) ?_
  refine a_cS_Pi (as := [.int p2, .int 0, .int 3]) (st := []) dX11_taken_3 (c_X11_within l g h p2 0 3) rfl km_X11_within (hm_X11_within) w_methodLink_RainCover_120 w_static_RainCover_within__III_Z ⟨⟨by decide, by decide⟩, ⟨by decide, by decide⟩⟩ (Nat.le_of_ble_eq_true rfl) (fun v1 => ?_)
  refine a_if_ne 12 dX11_taken_6 (by decide) (fun c2 => ?_) (fun c2 => ?_)
  · refine a_bipush (v := (-2)) dX11_taken_9 (by decide) ?_
    exact a_iret dX11_taken_11 rfl rfl (by decide) (by decide)
  · refine a_aload_n dX11_taken_12 rfl 0 rfl ?_
    refine a_iload_n dX11_taken_13 rfl 1 rfl ?_
    refine a_cV_Pi (r := p0) (ci := 12) (as := [.int p1]) (st := []) dX11_taken_14 (c_X11_isFarm l g h p0 p1) rfl km_X11_isFarm (hm_X11_isFarm) rfl (by decide) rfl (fun _ ee => g_X11_isFarm ee) w_methodLink_RainCover_254 w_instanceMethod_RainCover_isFarm__I_Z w_selects_RainCover_RainCover_isFarm__I_Z_RainCover_isFarm__I_Z ⟨⟨by decide, by decide⟩, ⟨by decide, by decide⟩⟩ (Nat.le_of_ble_eq_true rfl) (fun v3 => ?_)
    refine a_if_ne 23 dX11_taken_17 (by decide) (fun c4 => ?_) (fun c4 => ?_)
    · refine a_bipush (v := (-11)) dX11_taken_20 (by decide) ?_
      exact a_iret dX11_taken_22 rfl rfl (by decide) (by decide)
    · refine a_aload_n dX11_taken_23 rfl 0 rfl ?_
      refine a_getr kc12 2 dX11_taken_24 (by decide) rfl w_fieldLink_RainCover_21 (fun v5 => ?_)
      refine a_iload_n dX11_taken_27 rfl 1 rfl ?_
      refine a_cV_Pr (r := v5) (ci := 0) (as := [.int p1]) (st := []) dX11_taken_28 (c_Jx4a65c_get_915e3 l g h v5 p1) rfl km_Jx4a65c_get_915e3 (hm_Jx4a65c_get_915e3) rfl (by decide) rfl (fun _ ee => g_Jx4a65c_get_915e3 ee) w_methodLink_RainCover_124 w_instanceMethod_java_util_ArrayList_get__I_Ljava_lang_Object_ w_selects_java_util_ArrayList_java_util_ArrayList_get__I_Ljava_lang_Object__java_util_ArrayList_get__I_Ljava_lang_Object_ ⟨⟨by decide, by decide⟩, ⟨by decide, by decide⟩⟩ (Nat.le_of_ble_eq_true rfl) (fun v6 => ?_)
      refine a_cast kc3 dX11_taken_31 w_classLink_RainCover_233 ?_
      refine a_getr kc3 4 dX11_taken_34 (by decide) rfl w_fieldLink_RainCover_312 (fun v7 => ?_)
      refine a_astore_n (lc2 := [(3, .ref v7), (0, .ref p0), (1, .int p1), (2, .int p2)]) dX11_taken_37 rfl (by decide) rfl ?_
      refine a_iload_n dX11_taken_38 rfl 3 rfl ?_
      refine a_swt (v := 1) 64 dX11_taken_39 (by decide) (by decide) (fun c8 => ?_) (fun c8 => ?_)
      · refine a_aload_n dX11_taken_64 rfl 0 rfl ?_
        refine a_inst kc5 (by decide) dX11_taken_65 w_classLink_RainCover_242 (fun v9 => ?_)
        refine a_istore (lc2 := [(4, .int v9), (3, .ref v7), (0, .ref p0), (1, .int p1), (2, .int p2)]) dX11_taken_68 (by decide) rfl ?_
        refine a_goto 94 dX11_taken_70 (by decide) ?_
        refine a_pick (lc2 := [(3, .ref v7), (4, .int v9)]) [1, 0] rfl ?_
        exact t_X11_taken_b94 h v7 v9
      refine a_swt (v := 2) 73 dX11_taken_39 (by decide) (by decide) (fun c10 => ?_) (fun c10 => ?_)
      · refine a_aload_n dX11_taken_73 rfl 0 rfl ?_
        refine a_inst kc6 (by decide) dX11_taken_74 w_classLink_RainCover_245 (fun v11 => ?_)
        refine a_istore (lc2 := [(4, .int v11), (3, .ref v7), (0, .ref p0), (1, .int p1), (2, .int p2)]) dX11_taken_77 (by decide) rfl ?_
        refine a_goto 94 dX11_taken_79 (by decide) ?_
        refine a_pick (lc2 := [(3, .ref v7), (4, .int v11)]) [1, 0] rfl ?_
        exact t_X11_taken_b94 h v7 v11
      refine a_swt (v := 3) 82 dX11_taken_39 (by decide) (by decide) (fun c12 => ?_) (fun c12 => ?_)
      · refine a_aload_n dX11_taken_82 rfl 0 rfl ?_
        refine a_inst kc1 (by decide) dX11_taken_83 w_classLink_RainCover_248 (fun v13 => ?_)
        refine a_istore (lc2 := [(4, .int v13), (3, .ref v7), (0, .ref p0), (1, .int p1), (2, .int p2)]) dX11_taken_86 (by decide) rfl ?_
        refine a_goto 94 dX11_taken_88 (by decide) ?_
        refine a_pick (lc2 := [(3, .ref v7), (4, .int v13)]) [1, 0] rfl ?_
        exact t_X11_taken_b94 h v7 v13
      refine a_swtd (vs := [1, 2, 3]) 91 dX11_taken_39 (by decide) (by decide) (List.forall_mem_cons.mpr ⟨c8, List.forall_mem_cons.mpr ⟨c10, List.forall_mem_cons.mpr ⟨c12, fun _ hh => absurd hh List.not_mem_nil⟩⟩⟩) ?_
      refine a_iconst (v := 1) dX11_taken_91 (by decide) ?_
      refine a_istore (lc2 := [(4, .int 1), (3, .ref v7), (0, .ref p0), (1, .int p1), (2, .int p2)]) dX11_taken_92 (by decide) rfl ?_
      refine a_pick (lc2 := [(3, .ref v7), (4, .int 1)]) [1, 0] rfl ?_
      exact t_X11_taken_b94 h v7 1
theorem dX11_count_0 : decode cX11_count 0 = .ok (.iload_n 1, 1) := by decide +kernel
theorem dX11_count_1 : decode cX11_count 1 = .ok (.tableswitch 164 0 11 #[63, 71, 76, 84, 92, 100, 108, 116, 124, 132, 137, 156], 63) := by decide +kernel
theorem dX11_count_64 : decode cX11_count 64 = .ok (.aload_n 0, 1) := by decide +kernel
theorem dX11_count_65 : decode cX11_count 65 = .ok (.getfield 12, 3) := by decide +kernel
theorem dX11_count_68 : decode cX11_count 68 = .ok (.invokevirtual 104, 3) := by decide +kernel
theorem dX11_count_71 : decode cX11_count 71 = .ok (.ireturn, 1) := by decide +kernel
theorem dX11_count_72 : decode cX11_count 72 = .ok (.aload_n 0, 1) := by decide +kernel
theorem dX11_count_73 : decode cX11_count 73 = .ok (.invokevirtual 179, 3) := by decide +kernel
theorem dX11_count_76 : decode cX11_count 76 = .ok (.ireturn, 1) := by decide +kernel
theorem dX11_count_77 : decode cX11_count 77 = .ok (.aload_n 0, 1) := by decide +kernel
theorem dX11_count_78 : decode cX11_count 78 = .ok (.getfield 18, 3) := by decide +kernel
theorem dX11_count_81 : decode cX11_count 81 = .ok (.invokevirtual 104, 3) := by decide +kernel
theorem dX11_count_84 : decode cX11_count 84 = .ok (.ireturn, 1) := by decide +kernel
theorem dX11_count_85 : decode cX11_count 85 = .ok (.aload_n 0, 1) := by decide +kernel
theorem dX11_count_86 : decode cX11_count 86 = .ok (.getfield 21, 3) := by decide +kernel
theorem dX11_count_89 : decode cX11_count 89 = .ok (.invokevirtual 104, 3) := by decide +kernel
theorem dX11_count_92 : decode cX11_count 92 = .ok (.ireturn, 1) := by decide +kernel
theorem dX11_count_93 : decode cX11_count 93 = .ok (.aload_n 0, 1) := by decide +kernel
theorem dX11_count_94 : decode cX11_count 94 = .ok (.getfield 53, 3) := by decide +kernel
theorem dX11_count_97 : decode cX11_count 97 = .ok (.getfield 306, 3) := by decide +kernel
theorem dX11_count_100 : decode cX11_count 100 = .ok (.ireturn, 1) := by decide +kernel
theorem dX11_count_101 : decode cX11_count 101 = .ok (.aload_n 0, 1) := by decide +kernel
theorem dX11_count_102 : decode cX11_count 102 = .ok (.getfield 57, 3) := by decide +kernel
theorem dX11_count_105 : decode cX11_count 105 = .ok (.getfield 306, 3) := by decide +kernel
theorem dX11_count_108 : decode cX11_count 108 = .ok (.ireturn, 1) := by decide +kernel
theorem dX11_count_109 : decode cX11_count 109 = .ok (.aload_n 0, 1) := by decide +kernel
theorem dX11_count_110 : decode cX11_count 110 = .ok (.getfield 24, 3) := by decide +kernel
theorem dX11_count_113 : decode cX11_count 113 = .ok (.invokevirtual 104, 3) := by decide +kernel
theorem dX11_count_116 : decode cX11_count 116 = .ok (.ireturn, 1) := by decide +kernel
theorem dX11_count_117 : decode cX11_count 117 = .ok (.aload_n 0, 1) := by decide +kernel
theorem dX11_count_118 : decode cX11_count 118 = .ok (.getfield 60, 3) := by decide +kernel
theorem dX11_count_121 : decode cX11_count 121 = .ok (.getfield 306, 3) := by decide +kernel
theorem dX11_count_124 : decode cX11_count 124 = .ok (.ireturn, 1) := by decide +kernel
theorem dX11_count_125 : decode cX11_count 125 = .ok (.aload_n 0, 1) := by decide +kernel
theorem dX11_count_126 : decode cX11_count 126 = .ok (.getfield 37, 3) := by decide +kernel
theorem dX11_count_129 : decode cX11_count 129 = .ok (.getfield 204, 3) := by decide +kernel
theorem dX11_count_132 : decode cX11_count 132 = .ok (.ireturn, 1) := by decide +kernel
theorem dX11_count_133 : decode cX11_count 133 = .ok (.aload_n 0, 1) := by decide +kernel
theorem dX11_count_134 : decode cX11_count 134 = .ok (.getfield 73, 3) := by decide +kernel
theorem dX11_count_137 : decode cX11_count 137 = .ok (.ireturn, 1) := by decide +kernel
theorem dX11_count_138 : decode cX11_count 138 = .ok (.aload_n 0, 1) := by decide +kernel
theorem dX11_count_139 : decode cX11_count 139 = .ok (.getfield 80, 3) := by decide +kernel
theorem dX11_count_142 : decode cX11_count 142 = .ok (.ifnonnull 7, 3) := by decide +kernel
theorem dX11_count_145 : decode cX11_count 145 = .ok (.iconst 0, 1) := by decide +kernel
theorem dX11_count_146 : decode cX11_count 146 = .ok (.goto 10, 3) := by decide +kernel
theorem dX11_count_149 : decode cX11_count 149 = .ok (.aload_n 0, 1) := by decide +kernel
theorem dX11_count_150 : decode cX11_count 150 = .ok (.getfield 80, 3) := by decide +kernel
theorem dX11_count_153 : decode cX11_count 153 = .ok (.getfield 463, 3) := by decide +kernel
theorem dX11_count_156 : decode cX11_count 156 = .ok (.ireturn, 1) := by decide +kernel
theorem dX11_count_157 : decode cX11_count 157 = .ok (.aload_n 0, 1) := by decide +kernel
theorem dX11_count_158 : decode cX11_count 158 = .ok (.getfield 63, 3) := by decide +kernel
theorem dX11_count_161 : decode cX11_count 161 = .ok (.getfield 306, 3) := by decide +kernel
theorem dX11_count_164 : decode cX11_count 164 = .ok (.ireturn, 1) := by decide +kernel
theorem dX11_count_165 : decode cX11_count 165 = .ok (.bipush (-2), 2) := by decide +kernel
theorem dX11_count_167 : decode cX11_count 167 = .ok (.ireturn, 1) := by decide +kernel
abbrev M_X11_count : MI := (RX11, cX11_count, 2, (some .int), ({ frames := 1, cells := 0, slots := 0, locals := 20 } : Room), 0, 0, false)
def f_X11_count (h : AH) (p0 : Nat) (p1 : Int32) : Option Int32 := if kd h p0 = 12 + 1 then (if p1 = 0 then (xgr h p0 12 0).bind fun v2 => (f_Jx4a65c_size_8abf5 h v2).bind fun v3 => some v3 else (if p1 = 1 then (f_X11_now h p0).bind fun v5 => some v5 else (if p1 = 2 then (xgr h p0 12 1).bind fun v7 => (f_Jx4a65c_size_8abf5 h v7).bind fun v8 => some v8 else (if p1 = 3 then (xgr h p0 12 2).bind fun v10 => (f_Jx4a65c_size_8abf5 h v10).bind fun v11 => some v11 else (if p1 = 4 then (xgr h p0 12 8).bind fun v13 => (xgi h v13 8 3).bind fun v14 => some v14 else (if p1 = 5 then (xgr h p0 12 9).bind fun v16 => (xgi h v16 8 3).bind fun v17 => some v17 else (if p1 = 6 then (xgr h p0 12 3).bind fun v19 => (f_Jx4a65c_size_8abf5 h v19).bind fun v20 => some v20 else (if p1 = 7 then (xgr h p0 12 10).bind fun v22 => (xgi h v22 8 3).bind fun v23 => some v23 else (if p1 = 8 then (xgr h p0 12 5).bind fun v25 => (xgi h v25 9 1).bind fun v26 => some v26 else (if p1 = 9 then (xgi h p0 12 13).bind fun v28 => some v28 else (if p1 = 10 then (xgn h p0 12 15).bind fun v30 => v30.elim (some 0) fun w31 => (xgn h p0 12 15).bind fun v32 => v32.elim (none) fun w33 => (xgc h w33 3).bind fun v34 => some v34 else (if p1 = 11 then (xgr h p0 12 11).bind fun v36 => (xgi h v36 8 3).bind fun v37 => some v37 else some (-2))))))))))))) else none
theorem g_X11_count {h : AH} {p0 : Nat} {p1 : Int32} {x : Int32} (e : f_X11_count h p0 p1 = some x) : kd h p0 = 12 + 1 := by
  unfold f_X11_count at e
  by_cases hk : kd h p0 = 12 + 1
  · exact hk
  · rw [if_neg hk] at e
    cases e
theorem km_X11_count : KM yX11_count M_X11_count 1 := ⟨in_tb 1161 (by decide +kernel) rfl, in_tb 1 (by decide +kernel) rfl, by decide +kernel, rfl, rfl⟩
theorem hm_X11_count : M_X11_count.2.2.2.2.2.1 = 0 ∧ M_X11_count.2.2.2.2.2.2.1 = 0 := ⟨rfl, rfl⟩
section
variable {l : Launch} {g : GG}
end
set_option maxRecDepth 100000 in
set_option maxHeartbeats 4000000 in
theorem c_X11_count (l : Launch) (g : GG) (h : AH) (p0 : Nat) (p1 : Int32) : CN l g yX11_count M_X11_count false [.ref p0, .int p1] h ((rPi h)) (f_X11_count h p0 p1) := by
  refine CN.of (by decide) rfl (fun hh => by first | rfl | cases hh) (Nat.le_of_ble_eq_true rfl) ?_
  unfold f_X11_count
  refine a_gd (fun hkd => ?_)
  refine a_iload_n dX11_count_0 rfl 1 rfl ?_
  refine a_swt (v := 0) 64 dX11_count_1 (by decide) (by decide) (fun c1 => ?_) (fun c1 => ?_)
  · refine a_aload_n dX11_count_64 rfl 0 rfl ?_
    refine a_getr kc12 0 dX11_count_65 (by decide) rfl w_fieldLink_RainCover_12 (fun v2 => ?_)
    refine a_cV_Pi (r := v2) (ci := 0) (as := []) (st := []) dX11_count_68 (c_Jx4a65c_size_8abf5 l g h v2) rfl km_Jx4a65c_size_8abf5 (hm_Jx4a65c_size_8abf5) rfl (by decide) rfl (fun _ ee => g_Jx4a65c_size_8abf5 ee) w_methodLink_RainCover_104 w_instanceMethod_java_util_ArrayList_size___I w_selects_java_util_ArrayList_java_util_ArrayList_size___I_java_util_ArrayList_size___I ⟨⟨by decide, by decide⟩, ⟨by decide, by decide⟩⟩ (Nat.le_of_ble_eq_true rfl) (fun v3 => ?_)
    exact a_iret dX11_count_71 rfl rfl (by decide) (by decide)
  refine a_swt (v := 1) 72 dX11_count_1 (by decide) (by decide) (fun c4 => ?_) (fun c4 => ?_)
  · refine a_aload_n dX11_count_72 rfl 0 rfl ?_
    refine a_cV_Pi (r := p0) (ci := 12) (as := []) (st := []) dX11_count_73 (c_X11_now l g h p0) rfl km_X11_now (hm_X11_now) rfl (by decide) rfl (fun _ ee => g_X11_now ee) w_methodLink_RainCover_179 w_instanceMethod_RainCover_now___I w_selects_RainCover_RainCover_now___I_RainCover_now___I ⟨⟨by decide, by decide⟩, ⟨by decide, by decide⟩⟩ (Nat.le_of_ble_eq_true rfl) (fun v5 => ?_)
    exact a_iret dX11_count_76 rfl rfl (by decide) (by decide)
  refine a_swt (v := 2) 77 dX11_count_1 (by decide) (by decide) (fun c6 => ?_) (fun c6 => ?_)
  · refine a_aload_n dX11_count_77 rfl 0 rfl ?_
    refine a_getr kc12 1 dX11_count_78 (by decide) rfl w_fieldLink_RainCover_18 (fun v7 => ?_)
    refine a_cV_Pi (r := v7) (ci := 0) (as := []) (st := []) dX11_count_81 (c_Jx4a65c_size_8abf5 l g h v7) rfl km_Jx4a65c_size_8abf5 (hm_Jx4a65c_size_8abf5) rfl (by decide) rfl (fun _ ee => g_Jx4a65c_size_8abf5 ee) w_methodLink_RainCover_104 w_instanceMethod_java_util_ArrayList_size___I w_selects_java_util_ArrayList_java_util_ArrayList_size___I_java_util_ArrayList_size___I ⟨⟨by decide, by decide⟩, ⟨by decide, by decide⟩⟩ (Nat.le_of_ble_eq_true rfl) (fun v8 => ?_)
    exact a_iret dX11_count_84 rfl rfl (by decide) (by decide)
  refine a_swt (v := 3) 85 dX11_count_1 (by decide) (by decide) (fun c9 => ?_) (fun c9 => ?_)
  · refine a_aload_n dX11_count_85 rfl 0 rfl ?_
    refine a_getr kc12 2 dX11_count_86 (by decide) rfl w_fieldLink_RainCover_21 (fun v10 => ?_)
    refine a_cV_Pi (r := v10) (ci := 0) (as := []) (st := []) dX11_count_89 (c_Jx4a65c_size_8abf5 l g h v10) rfl km_Jx4a65c_size_8abf5 (hm_Jx4a65c_size_8abf5) rfl (by decide) rfl (fun _ ee => g_Jx4a65c_size_8abf5 ee) w_methodLink_RainCover_104 w_instanceMethod_java_util_ArrayList_size___I w_selects_java_util_ArrayList_java_util_ArrayList_size___I_java_util_ArrayList_size___I ⟨⟨by decide, by decide⟩, ⟨by decide, by decide⟩⟩ (Nat.le_of_ble_eq_true rfl) (fun v11 => ?_)
    exact a_iret dX11_count_92 rfl rfl (by decide) (by decide)
  refine a_swt (v := 4) 93 dX11_count_1 (by decide) (by decide) (fun c12 => ?_) (fun c12 => ?_)
  · refine a_aload_n dX11_count_93 rfl 0 rfl ?_
    refine a_getr kc12 8 dX11_count_94 (by decide) rfl w_fieldLink_RainCover_53 (fun v13 => ?_)
    refine a_geti kc8 3 dX11_count_97 (by decide) rfl w_fieldLink_RainCover_306 (fun v14 => ?_)
    exact a_iret dX11_count_100 rfl rfl (by decide) (by decide)
  refine a_swt (v := 5) 101 dX11_count_1 (by decide) (by decide) (fun c15 => ?_) (fun c15 => ?_)
  · refine a_aload_n dX11_count_101 rfl 0 rfl ?_
    refine a_getr kc12 9 dX11_count_102 (by decide) rfl w_fieldLink_RainCover_57 (fun v16 => ?_)
    refine a_geti kc8 3 dX11_count_105 (by decide) rfl w_fieldLink_RainCover_306 (fun v17 => ?_)
    exact a_iret dX11_count_108 rfl rfl (by decide) (by decide)
  refine a_swt (v := 6) 109 dX11_count_1 (by decide) (by decide) (fun c18 => ?_) (fun c18 => ?_)
  · refine a_aload_n dX11_count_109 rfl 0 rfl ?_
    refine a_getr kc12 3 dX11_count_110 (by decide) rfl w_fieldLink_RainCover_24 (fun v19 => ?_)
    refine a_cV_Pi (r := v19) (ci := 0) (as := []) (st := []) dX11_count_113 (c_Jx4a65c_size_8abf5 l g h v19) rfl km_Jx4a65c_size_8abf5 (hm_Jx4a65c_size_8abf5) rfl (by decide) rfl (fun _ ee => g_Jx4a65c_size_8abf5 ee) w_methodLink_RainCover_104 w_instanceMethod_java_util_ArrayList_size___I w_selects_java_util_ArrayList_java_util_ArrayList_size___I_java_util_ArrayList_size___I ⟨⟨by decide, by decide⟩, ⟨by decide, by decide⟩⟩ (Nat.le_of_ble_eq_true rfl) (fun v20 => ?_)
    exact a_iret dX11_count_116 rfl rfl (by decide) (by decide)
  refine a_swt (v := 7) 117 dX11_count_1 (by decide) (by decide) (fun c21 => ?_) (fun c21 => ?_)
  · refine a_aload_n dX11_count_117 rfl 0 rfl ?_
    refine a_getr kc12 10 dX11_count_118 (by decide) rfl w_fieldLink_RainCover_60 (fun v22 => ?_)
    refine a_geti kc8 3 dX11_count_121 (by decide) rfl w_fieldLink_RainCover_306 (fun v23 => ?_)
    exact a_iret dX11_count_124 rfl rfl (by decide) (by decide)
  refine a_swt (v := 8) 125 dX11_count_1 (by decide) (by decide) (fun c24 => ?_) (fun c24 => ?_)
  · refine a_aload_n dX11_count_125 rfl 0 rfl ?_
    refine a_getr kc12 5 dX11_count_126 (by decide) rfl w_fieldLink_RainCover_37 (fun v25 => ?_)
    refine a_geti kc9 1 dX11_count_129 (by decide) rfl w_fieldLink_RainCover_204 (fun v26 => ?_)
    exact a_iret dX11_count_132 rfl rfl (by decide) (by decide)
  refine a_swt (v := 9) 133 dX11_count_1 (by decide) (by decide) (fun c27 => ?_) (fun c27 => ?_)
  · refine a_aload_n dX11_count_133 rfl 0 rfl ?_
    refine a_geti kc12 13 dX11_count_134 (by decide) rfl w_fieldLink_RainCover_73 (fun v28 => ?_)
    exact a_iret dX11_count_137 rfl rfl (by decide) (by decide)
  refine a_swt (v := 10) 138 dX11_count_1 (by decide) (by decide) (fun c29 => ?_) (fun c29 => ?_)
  · refine a_aload_n dX11_count_138 rfl 0 rfl ?_
    refine a_getn kc12 15 dX11_count_139 (by decide) rfl w_fieldLink_RainCover_80 (fun v30 => ?_)
    refine a_opt ?_ (fun w31 => ?_)
    · refine a_ifnonnullN dX11_count_142 ?_
      refine a_iconst (v := 0) dX11_count_145 (by decide) ?_
      refine a_goto 156 dX11_count_146 (by decide) ?_
      exact a_iret dX11_count_156 rfl rfl (by decide) (by decide)
    · refine a_ifnonnull 149 dX11_count_142 (by decide) ?_
      refine a_aload_n dX11_count_149 rfl 0 rfl ?_
      refine a_getn kc12 15 dX11_count_150 (by decide) rfl w_fieldLink_RainCover_80 (fun v32 => ?_)
      refine a_opt ?_ (fun w33 => ?_)
      · exact a_none
      · refine a_gc3 dX11_count_153 w_fieldLink_RainCover_463 (fun v34 => ?_)
        exact a_iret dX11_count_156 rfl rfl (by decide) (by decide)
  refine a_swt (v := 11) 157 dX11_count_1 (by decide) (by decide) (fun c35 => ?_) (fun c35 => ?_)
  · refine a_aload_n dX11_count_157 rfl 0 rfl ?_
    refine a_getr kc12 11 dX11_count_158 (by decide) rfl w_fieldLink_RainCover_63 (fun v36 => ?_)
    refine a_geti kc8 3 dX11_count_161 (by decide) rfl w_fieldLink_RainCover_306 (fun v37 => ?_)
    exact a_iret dX11_count_164 rfl rfl (by decide) (by decide)
  refine a_swtd (vs := [0, 1, 2, 3, 4, 5, 6, 7, 8, 9, 10, 11]) 165 dX11_count_1 (by decide) (by decide) (List.forall_mem_cons.mpr ⟨c1, List.forall_mem_cons.mpr ⟨c4, List.forall_mem_cons.mpr ⟨c6, List.forall_mem_cons.mpr ⟨c9, List.forall_mem_cons.mpr ⟨c12, List.forall_mem_cons.mpr ⟨c15, List.forall_mem_cons.mpr ⟨c18, List.forall_mem_cons.mpr ⟨c21, List.forall_mem_cons.mpr ⟨c24, List.forall_mem_cons.mpr ⟨c27, List.forall_mem_cons.mpr ⟨c29, List.forall_mem_cons.mpr ⟨c35, fun _ hh => absurd hh List.not_mem_nil⟩⟩⟩⟩⟩⟩⟩⟩⟩⟩⟩⟩) ?_
  refine a_bipush (v := (-2)) dX11_count_165 (by decide) ?_
  exact a_iret dX11_count_167 rfl rfl (by decide) (by decide)
theorem dJ7_fill_53178_0 : decode cJ7_fill_53178 0 = .ok (.iconst 0, 1) := by decide +kernel
theorem dJ7_fill_53178_1 : decode cJ7_fill_53178 1 = .ok (.istore_n 2, 1) := by decide +kernel
theorem dJ7_fill_53178_2 : decode cJ7_fill_53178 2 = .ok (.aload_n 0, 1) := by decide +kernel
theorem dJ7_fill_53178_3 : decode cJ7_fill_53178 3 = .ok (.arraylength, 1) := by decide +kernel
theorem dJ7_fill_53178_4 : decode cJ7_fill_53178 4 = .ok (.istore_n 3, 1) := by decide +kernel
theorem dJ7_fill_53178_5 : decode cJ7_fill_53178 5 = .ok (.iload_n 2, 1) := by decide +kernel
theorem dJ7_fill_53178_6 : decode cJ7_fill_53178 6 = .ok (.iload_n 3, 1) := by decide +kernel
theorem dJ7_fill_53178_7 : decode cJ7_fill_53178 7 = .ok (.if_icmp .ge 13, 3) := by decide +kernel
theorem dJ7_fill_53178_10 : decode cJ7_fill_53178 10 = .ok (.aload_n 0, 1) := by decide +kernel
theorem dJ7_fill_53178_11 : decode cJ7_fill_53178 11 = .ok (.iload_n 2, 1) := by decide +kernel
theorem dJ7_fill_53178_12 : decode cJ7_fill_53178 12 = .ok (.iload_n 1, 1) := by decide +kernel
theorem dJ7_fill_53178_13 : decode cJ7_fill_53178 13 = .ok (.iastore, 1) := by decide +kernel
theorem dJ7_fill_53178_14 : decode cJ7_fill_53178 14 = .ok (.iinc 2 1, 3) := by decide +kernel
theorem dJ7_fill_53178_17 : decode cJ7_fill_53178 17 = .ok (.goto (-12), 3) := by decide +kernel
theorem dJ7_fill_53178_20 : decode cJ7_fill_53178 20 = .ok (.return_, 1) := by decide +kernel
abbrev M_J7_fill_53178 : MI := (RJ7, cJ7_fill_53178, 4, none, ({ frames := 0, cells := 0, slots := 0, locals := 0 } : Room), 0, 0, false)
def f_J7_fill_53178_b5_body (N : Nat) (K5 : AH → Nat → Int32 → Int32 → Int32 → Option AH) (h : AH) (x0 : Nat) (x1 : Int32) (x2 : Int32) (x3 : Int32) : Option AH := (if x3 ≤ x2 then some h else (xis h x0 x2 x1).bind fun h3 => K5 h3 x0 x1 (x2 + 1) x3)
def f_J7_fill_53178_b5 (N : Nat) : Nat → AH → Nat → Int32 → Int32 → Int32 → Option AH
  | 0, _, _, _, _, _ => none
  | n + 1, h, x0, x1, x2, x3 => f_J7_fill_53178_b5_body N  (f_J7_fill_53178_b5 N  n) h x0 x1 x2 x3
def f_J7_fill_53178 (h0 : AH) (N : Nat) (p0 : Nat) (p1 : Int32) : Option AH := (xal h0 p0).bind fun v1 => f_J7_fill_53178_b5 N N h0 p0 p1 0 v1
theorem km_J7_fill_53178 : KM yJ7_fill_53178 M_J7_fill_53178 2 := ⟨in_tb 1172 (by decide +kernel) rfl, in_tb 13 (by decide +kernel) rfl, by decide +kernel, rfl, rfl⟩
theorem hm_J7_fill_53178 : M_J7_fill_53178.2.2.2.2.2.1 = 0 ∧ M_J7_fill_53178.2.2.2.2.2.2.1 = 0 := ⟨rfl, rfl⟩
section
variable {l : Launch} {g : GG}
set_option maxRecDepth 100000 in
set_option maxHeartbeats 4000000 in
theorem t_J7_fill_53178_b5_body (h0 : AH) (N : Nat) (K5 : AH → Nat → Int32 → Int32 → Int32 → Option AH) (hK5 : ∀ (z : AH) (z0 : Nat) (z1 : Int32) (z2 : Int32) (z3 : Int32), AO l g M_J7_fill_53178 false h0 5 [(0, .ref z0), (1, .int z1), (2, .int z2), (3, .int z3)] [] z 0 0 rSv (K5 z z0 z1 z2 z3)) (h : AH) (x0 : Nat) (x1 : Int32) (x2 : Int32) (x3 : Int32) : AO l g M_J7_fill_53178 false h0 5 [(0, .ref x0), (1, .int x1), (2, .int x2), (3, .int x3)] [] h 0 0 rSv (f_J7_fill_53178_b5_body N K5 h x0 x1 x2 x3) := by
  unfold f_J7_fill_53178_b5_body
  refine a_iload_n dJ7_fill_53178_5 rfl 2 rfl ?_
  refine a_iload_n dJ7_fill_53178_6 rfl 3 rfl ?_
  refine a_icmp_ge 20 dJ7_fill_53178_7 (by decide) (fun c2 => ?_) (fun c2 => ?_)
  · exact a_vret dJ7_fill_53178_20 rfl rfl (by decide) (by decide)
  · refine a_aload_n dJ7_fill_53178_10 rfl 0 rfl ?_
    refine a_iload_n dJ7_fill_53178_11 rfl 2 rfl ?_
    refine a_iload_n dJ7_fill_53178_12 rfl 1 rfl ?_
    refine a_iast dJ7_fill_53178_13 (fun h3 => ?_)
    refine a_iinc (q := 2) (v := (x2 + 1)) (lc2 := [(2, .int (x2 + 1)), (0, .ref x0), (1, .int x1), (3, .int x3)]) dJ7_fill_53178_14 rfl rfl (by decide) rfl ?_
    refine a_goto 5 dJ7_fill_53178_17 (by decide) ?_
    refine a_pick (lc2 := [(0, .ref x0), (1, .int x1), (2, .int (x2 + 1)), (3, .int x3)]) [1, 2, 0, 3] rfl ?_
    exact hK5 h3 x0 x1 (x2 + 1) x3
set_option maxRecDepth 100000 in
set_option maxHeartbeats 4000000 in
theorem t_J7_fill_53178_b5 (h0 : AH) (N : Nat) : ∀ (n : Nat) (h : AH) (x0 : Nat) (x1 : Int32) (x2 : Int32) (x3 : Int32) , AO l g M_J7_fill_53178 false h0 5 [(0, .ref x0), (1, .int x1), (2, .int x2), (3, .int x3)] [] h 0 0 rSv (f_J7_fill_53178_b5 N  n h x0 x1 x2 x3) := by
  intro n
  induction n with
  | zero => intro h x0 x1 x2 x3; exact a_eq rfl a_none
  | succ n ih => intro h x0 x1 x2 x3; exact a_eq rfl (t_J7_fill_53178_b5_body h0 N  (f_J7_fill_53178_b5 N  n) ih h x0 x1 x2 x3)
end
set_option maxRecDepth 100000 in
set_option maxHeartbeats 4000000 in
theorem c_J7_fill_53178 (l : Launch) (g : GG) (h0 : AH) (N : Nat) (p0 : Nat) (p1 : Int32) : CN l g yJ7_fill_53178 M_J7_fill_53178 false [.ref p0, .int p1] h0 rSv (f_J7_fill_53178 h0 N p0 p1) := by
  refine CN.of (by decide) rfl (fun hh => by first | rfl | cases hh) (Nat.le_of_ble_eq_true rfl) ?_
  unfold f_J7_fill_53178
  refine a_iconst (v := 0) dJ7_fill_53178_0 (by decide) ?_
  refine a_istore_n (lc2 := [(2, .int 0), (0, .ref p0), (1, .int p1)]) dJ7_fill_53178_1 rfl (by decide) rfl ?_
  refine a_aload_n dJ7_fill_53178_2 rfl 1 rfl ?_
  refine a_alen dJ7_fill_53178_3 (fun v1 => ?_)
  refine a_istore_n (lc2 := [(3, .int v1), (2, .int 0), (0, .ref p0), (1, .int p1)]) dJ7_fill_53178_4 rfl (by decide) rfl ?_
  refine a_pick (lc2 := [(0, .ref p0), (1, .int p1), (2, .int 0), (3, .int v1)]) [2, 3, 1, 0] rfl ?_
  exact t_J7_fill_53178_b5 h0 N N h0 p0 p1 0 v1
theorem dX6_become_0 : decode cX6_become 0 = .ok (.aload_n 0, 1) := by decide +kernel
theorem dX6_become_1 : decode cX6_become 1 = .ok (.iload_n 1, 1) := by decide +kernel
theorem dX6_become_2 : decode cX6_become 2 = .ok (.putfield 9, 3) := by decide +kernel
theorem dX6_become_5 : decode cX6_become 5 = .ok (.aload_n 0, 1) := by decide +kernel
theorem dX6_become_6 : decode cX6_become 6 = .ok (.iload_n 2, 1) := by decide +kernel
theorem dX6_become_7 : decode cX6_become 7 = .ok (.putfield 13, 3) := by decide +kernel
theorem dX6_become_10 : decode cX6_become 10 = .ok (.aload_n 0, 1) := by decide +kernel
theorem dX6_become_11 : decode cX6_become 11 = .ok (.getfield 16, 3) := by decide +kernel
theorem dX6_become_14 : decode cX6_become 14 = .ok (.iconst 0, 1) := by decide +kernel
theorem dX6_become_15 : decode cX6_become 15 = .ok (.invokestatic 26, 3) := by decide +kernel
theorem dX6_become_18 : decode cX6_become 18 = .ok (.return_, 1) := by decide +kernel
abbrev M_X6_become : MI := (RX6, cX6_become, 3, none, ({ frames := 1, cells := 0, slots := 0, locals := 23 } : Room), 0, 0, false)
def f_X6_become (h0 : AH) (N : Nat) (p0 : Nat) (p1 : Int32) (p2 : Int32) : Option AH := if kd h0 p0 = 7 + 1 then (xpi h0 p0 7 0 p1).bind fun h1 => (xpi h1 p0 7 1 p2).bind fun h2 => (xgr h2 p0 7 2).bind fun v3 => (f_J7_fill_53178 h2 N v3 0).bind fun q4 => some q4 else none
theorem g_X6_become {h0 : AH} {N : Nat} {p0 : Nat} {p1 : Int32} {p2 : Int32} {x : AH} (e : f_X6_become h0 N p0 p1 p2 = some x) : kd h0 p0 = 7 + 1 := by
  unfold f_X6_become at e
  by_cases hk : kd h0 p0 = 7 + 1
  · exact hk
  · rw [if_neg hk] at e
    cases e
theorem km_X6_become : KM yX6_become M_X6_become 2 := ⟨in_tb 1169 (by decide +kernel) rfl, in_tb 8 (by decide +kernel) rfl, by decide +kernel, rfl, rfl⟩
theorem hm_X6_become : M_X6_become.2.2.2.2.2.1 = 0 ∧ M_X6_become.2.2.2.2.2.2.1 = 0 := ⟨rfl, rfl⟩
section
variable {l : Launch} {g : GG}
end
set_option maxRecDepth 100000 in
set_option maxHeartbeats 4000000 in
theorem c_X6_become (l : Launch) (g : GG) (h0 : AH) (N : Nat) (p0 : Nat) (p1 : Int32) (p2 : Int32) : CN l g yX6_become M_X6_become false [.ref p0, .int p1, .int p2] h0 rSv (f_X6_become h0 N p0 p1 p2) := by
  refine CN.of (by decide) rfl (fun hh => by first | rfl | cases hh) (Nat.le_of_ble_eq_true rfl) ?_
  unfold f_X6_become
  refine a_gd (fun hkd => ?_)
  refine a_aload_n dX6_become_0 rfl 0 rfl ?_
  refine a_iload_n dX6_become_1 rfl 1 rfl ?_
  refine a_puti kc7 0 dX6_become_2 (by decide) rfl w_fieldLink_RainCover_Sheet_9 rfl rfl (fun h1 => ?_)
  refine a_aload_n dX6_become_5 rfl 0 rfl ?_
  refine a_iload_n dX6_become_6 rfl 2 rfl ?_
  refine a_puti kc7 1 dX6_become_7 (by decide) rfl w_fieldLink_RainCover_Sheet_13 rfl rfl (fun h2 => ?_)
  refine a_aload_n dX6_become_10 rfl 0 rfl ?_
  refine a_getr kc7 2 dX6_become_11 (by decide) rfl w_fieldLink_RainCover_Sheet_16 (fun v3 => ?_)
  refine a_iconst (v := 0) dX6_become_14 (by decide) ?_
  refine a_cS_Sv (as := [.ref v3, .int 0]) (st := []) dX6_become_15 (c_J7_fill_53178 l g h2 N v3 0) rfl km_J7_fill_53178 (hm_J7_fill_53178) w_methodLink_RainCover_Sheet_26 w_static_java_util_Arrays_fill___II_V ⟨⟨by decide, by decide⟩, ⟨by decide, by decide⟩⟩ (Nat.le_of_ble_eq_true rfl) (fun q4 => ?_)
  exact a_vret dX6_become_18 rfl rfl (by decide) (by decide)
theorem dX11_sheet_0 : decode cX11_sheet 0 = .ok (.aload_n 0, 1) := by decide +kernel
theorem dX11_sheet_1 : decode cX11_sheet 1 = .ok (.iload_n 1, 1) := by decide +kernel
theorem dX11_sheet_2 : decode cX11_sheet 2 = .ok (.invokevirtual 150, 3) := by decide +kernel
theorem dX11_sheet_5 : decode cX11_sheet 5 = .ok (.ifCond .ne 6, 3) := by decide +kernel
theorem dX11_sheet_8 : decode cX11_sheet 8 = .ok (.bipush (-2), 2) := by decide +kernel
theorem dX11_sheet_10 : decode cX11_sheet 10 = .ok (.ireturn, 1) := by decide +kernel
theorem dX11_sheet_11 : decode cX11_sheet 11 = .ok (.iload_n 2, 1) := by decide +kernel
theorem dX11_sheet_12 : decode cX11_sheet 12 = .ok (.iconst (-1), 1) := by decide +kernel
theorem dX11_sheet_13 : decode cX11_sheet 13 = .ok (.if_icmp .ne 16, 3) := by decide +kernel
theorem dX11_sheet_16 : decode cX11_sheet 16 = .ok (.aload_n 0, 1) := by decide +kernel
theorem dX11_sheet_17 : decode cX11_sheet 17 = .ok (.getfield 69, 3) := by decide +kernel
theorem dX11_sheet_20 : decode cX11_sheet 20 = .ok (.iload_n 1, 1) := by decide +kernel
theorem dX11_sheet_21 : decode cX11_sheet 21 = .ok (.aaload, 1) := by decide +kernel
theorem dX11_sheet_22 : decode cX11_sheet 22 = .ok (.iload_n 2, 1) := by decide +kernel
theorem dX11_sheet_23 : decode cX11_sheet 23 = .ok (.iconst 0, 1) := by decide +kernel
theorem dX11_sheet_24 : decode cX11_sheet 24 = .ok (.invokevirtual 478, 3) := by decide +kernel
theorem dX11_sheet_27 : decode cX11_sheet 27 = .ok (.iconst 1, 1) := by decide +kernel
theorem dX11_sheet_28 : decode cX11_sheet 28 = .ok (.ireturn, 1) := by decide +kernel
theorem dX11_sheet_29 : decode cX11_sheet 29 = .ok (.iload_n 2, 1) := by decide +kernel
theorem dX11_sheet_30 : decode cX11_sheet 30 = .ok (.invokestatic 153, 3) := by decide +kernel
theorem dX11_sheet_33 : decode cX11_sheet 33 = .ok (.ifCond .eq 9, 3) := by decide +kernel
theorem dX11_sheet_36 : decode cX11_sheet 36 = .ok (.iload_n 3, 1) := by decide +kernel
theorem dX11_sheet_37 : decode cX11_sheet 37 = .ok (.bipush 40, 2) := by decide +kernel
theorem dX11_sheet_39 : decode cX11_sheet 39 = .ok (.if_icmp .le 6, 3) := by decide +kernel
theorem dX11_sheet_42 : decode cX11_sheet 42 = .ok (.bipush (-2), 2) := by decide +kernel
theorem dX11_sheet_44 : decode cX11_sheet 44 = .ok (.ireturn, 1) := by decide +kernel
theorem dX11_sheet_45 : decode cX11_sheet 45 = .ok (.iload_n 3, 1) := by decide +kernel
theorem dX11_sheet_46 : decode cX11_sheet 46 = .ok (.ifCond .ge 6, 3) := by decide +kernel
theorem dX11_sheet_49 : decode cX11_sheet 49 = .ok (.bipush (-14), 2) := by decide +kernel
theorem dX11_sheet_51 : decode cX11_sheet 51 = .ok (.ireturn, 1) := by decide +kernel
theorem dX11_sheet_52 : decode cX11_sheet 52 = .ok (.aload_n 0, 1) := by decide +kernel
theorem dX11_sheet_53 : decode cX11_sheet 53 = .ok (.getfield 69, 3) := by decide +kernel
theorem dX11_sheet_56 : decode cX11_sheet 56 = .ok (.iload_n 1, 1) := by decide +kernel
theorem dX11_sheet_57 : decode cX11_sheet 57 = .ok (.aaload, 1) := by decide +kernel
theorem dX11_sheet_58 : decode cX11_sheet 58 = .ok (.iload_n 2, 1) := by decide +kernel
theorem dX11_sheet_59 : decode cX11_sheet 59 = .ok (.iload_n 3, 1) := by decide +kernel
theorem dX11_sheet_60 : decode cX11_sheet 60 = .ok (.invokevirtual 478, 3) := by decide +kernel
theorem dX11_sheet_63 : decode cX11_sheet 63 = .ok (.iconst 1, 1) := by decide +kernel
theorem dX11_sheet_64 : decode cX11_sheet 64 = .ok (.ireturn, 1) := by decide +kernel
abbrev M_X11_sheet : MI := (RX11, cX11_sheet, 4, (some .int), ({ frames := 2, cells := 0, slots := 0, locals := 45 } : Room), 0, 0, false)
def f_X11_sheet (h0 : AH) (N : Nat) (p0 : Nat) (p1 : Int32) (p2 : Int32) (p3 : Int32) : Option (Int32 × AH) := if kd h0 p0 = 12 + 1 then (f_X11_isSheet h0 p0 p1).bind fun v1 => (if v1 = 0 then some ((-2), h0) else (if p2 = (-1) then (xgr h0 p0 12 12).bind fun v4 => (xaa h0 v4 p1).bind fun v5 => (f_X6_become h0 N v5 p2 0).bind fun q6 => some (1, q6) else (f_X6_isSort h0 p2).bind fun v7 => (if v7 = 0 then some ((-2), h0) else (if p3 ≤ 40 then (if 0 ≤ p3 then (xgr h0 p0 12 12).bind fun v11 => (xaa h0 v11 p1).bind fun v12 => (f_X6_become h0 N v12 p2 p3).bind fun q13 => some (1, q13) else some ((-14), h0)) else some ((-2), h0))))) else none
theorem g_X11_sheet {h0 : AH} {N : Nat} {p0 : Nat} {p1 : Int32} {p2 : Int32} {p3 : Int32} {x : (Int32 × AH)} (e : f_X11_sheet h0 N p0 p1 p2 p3 = some x) : kd h0 p0 = 12 + 1 := by
  unfold f_X11_sheet at e
  by_cases hk : kd h0 p0 = 12 + 1
  · exact hk
  · rw [if_neg hk] at e
    cases e
theorem km_X11_sheet : KM yX11_sheet M_X11_sheet 3 := ⟨in_tb 1165 (by decide +kernel) rfl, in_tb 1 (by decide +kernel) rfl, by decide +kernel, rfl, rfl⟩
theorem hm_X11_sheet : M_X11_sheet.2.2.2.2.2.1 = 0 ∧ M_X11_sheet.2.2.2.2.2.2.1 = 0 := ⟨rfl, rfl⟩
section
variable {l : Launch} {g : GG}
end
set_option maxRecDepth 100000 in
set_option maxHeartbeats 4000000 in
theorem c_X11_sheet (l : Launch) (g : GG) (h0 : AH) (N : Nat) (p0 : Nat) (p1 : Int32) (p2 : Int32) (p3 : Int32) : CN l g yX11_sheet M_X11_sheet false [.ref p0, .int p1, .int p2, .int p3] h0 rSi (f_X11_sheet h0 N p0 p1 p2 p3) := by
  refine CN.of (by decide) rfl (fun hh => by first | rfl | cases hh) (Nat.le_of_ble_eq_true rfl) ?_
  unfold f_X11_sheet
  refine a_gd (fun hkd => ?_)
  refine a_aload_n dX11_sheet_0 rfl 0 rfl ?_
  refine a_iload_n dX11_sheet_1 rfl 1 rfl ?_
  refine a_cV_Pi (r := p0) (ci := 12) (as := [.int p1]) (st := []) dX11_sheet_2 (c_X11_isSheet l g h0 p0 p1) rfl km_X11_isSheet (hm_X11_isSheet) rfl (by decide) rfl (fun _ ee => g_X11_isSheet ee) w_methodLink_RainCover_150 w_instanceMethod_RainCover_isSheet__I_Z w_selects_RainCover_RainCover_isSheet__I_Z_RainCover_isSheet__I_Z ⟨⟨by decide, by decide⟩, ⟨by decide, by decide⟩⟩ (Nat.le_of_ble_eq_true rfl) (fun v1 => ?_)
  refine a_if_ne 11 dX11_sheet_5 (by decide) (fun c2 => ?_) (fun c2 => ?_)
  · refine a_bipush (v := (-2)) dX11_sheet_8 (by decide) ?_
    exact a_iret dX11_sheet_10 rfl rfl (by decide) (by decide)
  · refine a_iload_n dX11_sheet_11 rfl 2 rfl ?_
    refine a_iconst (v := (-1)) dX11_sheet_12 (by decide) ?_
    refine a_icmp_ne 29 dX11_sheet_13 (by decide) (fun c3 => ?_) (fun c3 => ?_)
    · refine a_aload_n dX11_sheet_16 rfl 0 rfl ?_
      refine a_getr kc12 12 dX11_sheet_17 (by decide) rfl w_fieldLink_RainCover_69 (fun v4 => ?_)
      refine a_iload_n dX11_sheet_20 rfl 1 rfl ?_
      refine a_aald dX11_sheet_21 (fun v5 => ?_)
      refine a_iload_n dX11_sheet_22 rfl 2 rfl ?_
      refine a_iconst (v := 0) dX11_sheet_23 (by decide) ?_
      refine a_cV_Sv (r := v5) (ci := 7) (as := [.int p2, .int 0]) (st := []) dX11_sheet_24 (c_X6_become l g h0 N v5 p2 0) rfl km_X6_become (hm_X6_become) rfl (by decide) rfl (fun _ ee => g_X6_become ee) w_methodLink_RainCover_478 w_instanceMethod_RainCover_Sheet_become__II_V w_selects_RainCover_Sheet_RainCover_Sheet_become__II_V_RainCover_Sheet_become__II_V ⟨⟨by decide, by decide⟩, ⟨by decide, by decide⟩⟩ (Nat.le_of_ble_eq_true rfl) (fun q6 => ?_)
      refine a_iconst (v := 1) dX11_sheet_27 (by decide) ?_
      exact a_iret dX11_sheet_28 rfl rfl (by decide) (by decide)
    · refine a_iload_n dX11_sheet_29 rfl 2 rfl ?_
      refine a_cS_Pi (as := [.int p2]) (st := []) dX11_sheet_30 (c_X6_isSort l g h0 p2) rfl km_X6_isSort (hm_X6_isSort) w_methodLink_RainCover_153 w_static_RainCover_Sheet_isSort__I_Z ⟨⟨by decide, by decide⟩, ⟨by decide, by decide⟩⟩ (Nat.le_of_ble_eq_true rfl) (fun v7 => ?_)
      refine a_if_eq 42 dX11_sheet_33 (by decide) (fun c8 => ?_) (fun c8 => ?_)
      · refine a_bipush (v := (-2)) dX11_sheet_42 (by decide) ?_
        exact a_iret dX11_sheet_44 rfl rfl (by decide) (by decide)
      · refine a_iload_n dX11_sheet_36 rfl 3 rfl ?_
        refine a_bipush (v := 40) dX11_sheet_37 (by decide) ?_
        refine a_icmp_le 45 dX11_sheet_39 (by decide) (fun c9 => ?_) (fun c9 => ?_)
        · refine a_iload_n dX11_sheet_45 rfl 3 rfl ?_
          refine a_if_ge 52 dX11_sheet_46 (by decide) (fun c10 => ?_) (fun c10 => ?_)
          · refine a_aload_n dX11_sheet_52 rfl 0 rfl ?_
            refine a_getr kc12 12 dX11_sheet_53 (by decide) rfl w_fieldLink_RainCover_69 (fun v11 => ?_)
            refine a_iload_n dX11_sheet_56 rfl 1 rfl ?_
            refine a_aald dX11_sheet_57 (fun v12 => ?_)
            refine a_iload_n dX11_sheet_58 rfl 2 rfl ?_
            refine a_iload_n dX11_sheet_59 rfl 3 rfl ?_
            refine a_cV_Sv (r := v12) (ci := 7) (as := [.int p2, .int p3]) (st := []) dX11_sheet_60 (c_X6_become l g h0 N v12 p2 p3) rfl km_X6_become (hm_X6_become) rfl (by decide) rfl (fun _ ee => g_X6_become ee) w_methodLink_RainCover_478 w_instanceMethod_RainCover_Sheet_become__II_V w_selects_RainCover_Sheet_RainCover_Sheet_become__II_V_RainCover_Sheet_become__II_V ⟨⟨by decide, by decide⟩, ⟨by decide, by decide⟩⟩ (Nat.le_of_ble_eq_true rfl) (fun q13 => ?_)
            refine a_iconst (v := 1) dX11_sheet_63 (by decide) ?_
            exact a_iret dX11_sheet_64 rfl rfl (by decide) (by decide)
          · refine a_bipush (v := (-14)) dX11_sheet_49 (by decide) ?_
            exact a_iret dX11_sheet_51 rfl rfl (by decide) (by decide)
        · refine a_bipush (v := (-2)) dX11_sheet_42 (by decide) ?_
          exact a_iret dX11_sheet_44 rfl rfl (by decide) (by decide)
theorem dX6_store_0 : decode cX6_store 0 = .ok (.aload_n 0, 1) := by decide +kernel
theorem dX6_store_1 : decode cX6_store 1 = .ok (.getfield 9, 3) := by decide +kernel
theorem dX6_store_4 : decode cX6_store 4 = .ok (.ifCond .ne 14, 3) := by decide +kernel
theorem dX6_store_7 : decode cX6_store 7 = .ok (.aload_n 0, 1) := by decide +kernel
theorem dX6_store_8 : decode cX6_store 8 = .ok (.getfield 16, 3) := by decide +kernel
theorem dX6_store_11 : decode cX6_store 11 = .ok (.iload_n 1, 1) := by decide +kernel
theorem dX6_store_12 : decode cX6_store 12 = .ok (.iload_n 2, 1) := by decide +kernel
theorem dX6_store_13 : decode cX6_store 13 = .ok (.i2b, 1) := by decide +kernel
theorem dX6_store_14 : decode cX6_store 14 = .ok (.iastore, 1) := by decide +kernel
theorem dX6_store_15 : decode cX6_store 15 = .ok (.goto 29, 3) := by decide +kernel
theorem dX6_store_18 : decode cX6_store 18 = .ok (.aload_n 0, 1) := by decide +kernel
theorem dX6_store_19 : decode cX6_store 19 = .ok (.getfield 9, 3) := by decide +kernel
theorem dX6_store_22 : decode cX6_store 22 = .ok (.iconst 1, 1) := by decide +kernel
theorem dX6_store_23 : decode cX6_store 23 = .ok (.if_icmp .ne 14, 3) := by decide +kernel
theorem dX6_store_26 : decode cX6_store 26 = .ok (.aload_n 0, 1) := by decide +kernel
theorem dX6_store_27 : decode cX6_store 27 = .ok (.getfield 16, 3) := by decide +kernel
theorem dX6_store_30 : decode cX6_store 30 = .ok (.iload_n 1, 1) := by decide +kernel
theorem dX6_store_31 : decode cX6_store 31 = .ok (.iload_n 2, 1) := by decide +kernel
theorem dX6_store_32 : decode cX6_store 32 = .ok (.i2s, 1) := by decide +kernel
theorem dX6_store_33 : decode cX6_store 33 = .ok (.iastore, 1) := by decide +kernel
theorem dX6_store_34 : decode cX6_store 34 = .ok (.goto 10, 3) := by decide +kernel
theorem dX6_store_37 : decode cX6_store 37 = .ok (.aload_n 0, 1) := by decide +kernel
theorem dX6_store_38 : decode cX6_store 38 = .ok (.getfield 16, 3) := by decide +kernel
theorem dX6_store_41 : decode cX6_store 41 = .ok (.iload_n 1, 1) := by decide +kernel
theorem dX6_store_42 : decode cX6_store 42 = .ok (.iload_n 2, 1) := by decide +kernel
theorem dX6_store_43 : decode cX6_store 43 = .ok (.iastore, 1) := by decide +kernel
theorem dX6_store_44 : decode cX6_store 44 = .ok (.return_, 1) := by decide +kernel
abbrev M_X6_store : MI := (RX6, cX6_store, 3, none, ({ frames := 0, cells := 0, slots := 0, locals := 0 } : Room), 0, 0, false)
def f_X6_store (h0 : AH) (p0 : Nat) (p1 : Int32) (p2 : Int32) : Option AH := if kd h0 p0 = 7 + 1 then (xgi h0 p0 7 0).bind fun v1 => (if v1 = 0 then (xgr h0 p0 7 2).bind fun v3 => (xis h0 v3 p1 (p2 : Int32).toInt8.toInt32).bind fun h4 => some h4 else (xgi h0 p0 7 0).bind fun v5 => (if v5 = 1 then (xgr h0 p0 7 2).bind fun v7 => (xis h0 v7 p1 (p2 : Int32).toInt16.toInt32).bind fun h8 => some h8 else (xgr h0 p0 7 2).bind fun v9 => (xis h0 v9 p1 p2).bind fun h10 => some h10)) else none
theorem g_X6_store {h0 : AH} {p0 : Nat} {p1 : Int32} {p2 : Int32} {x : AH} (e : f_X6_store h0 p0 p1 p2 = some x) : kd h0 p0 = 7 + 1 := by
  unfold f_X6_store at e
  by_cases hk : kd h0 p0 = 7 + 1
  · exact hk
  · rw [if_neg hk] at e
    cases e
theorem km_X6_store : KM yX6_store M_X6_store 2 := ⟨in_tb 1180 (by decide +kernel) rfl, in_tb 8 (by decide +kernel) rfl, by decide +kernel, rfl, rfl⟩
theorem hm_X6_store : M_X6_store.2.2.2.2.2.1 = 0 ∧ M_X6_store.2.2.2.2.2.2.1 = 0 := ⟨rfl, rfl⟩
section
variable {l : Launch} {g : GG}
end
set_option maxRecDepth 100000 in
set_option maxHeartbeats 4000000 in
theorem c_X6_store (l : Launch) (g : GG) (h0 : AH) (p0 : Nat) (p1 : Int32) (p2 : Int32) : CN l g yX6_store M_X6_store false [.ref p0, .int p1, .int p2] h0 rSv (f_X6_store h0 p0 p1 p2) := by
  refine CN.of (by decide) rfl (fun hh => by first | rfl | cases hh) (Nat.le_of_ble_eq_true rfl) ?_
  unfold f_X6_store
  refine a_gd (fun hkd => ?_)
  refine a_aload_n dX6_store_0 rfl 0 rfl ?_
  refine a_geti kc7 0 dX6_store_1 (by decide) rfl w_fieldLink_RainCover_Sheet_9 (fun v1 => ?_)
  refine a_if_ne 18 dX6_store_4 (by decide) (fun c2 => ?_) (fun c2 => ?_)
  · refine a_aload_n dX6_store_7 rfl 0 rfl ?_
    refine a_getr kc7 2 dX6_store_8 (by decide) rfl w_fieldLink_RainCover_Sheet_16 (fun v3 => ?_)
    refine a_iload_n dX6_store_11 rfl 1 rfl ?_
    refine a_iload_n dX6_store_12 rfl 2 rfl ?_
    refine a_i2b dX6_store_13 ?_
    refine a_iast dX6_store_14 (fun h4 => ?_)
    refine a_goto 44 dX6_store_15 (by decide) ?_
    exact a_vret dX6_store_44 rfl rfl (by decide) (by decide)
  · refine a_aload_n dX6_store_18 rfl 0 rfl ?_
    refine a_geti kc7 0 dX6_store_19 (by decide) rfl w_fieldLink_RainCover_Sheet_9 (fun v5 => ?_)
    refine a_iconst (v := 1) dX6_store_22 (by decide) ?_
    refine a_icmp_ne 37 dX6_store_23 (by decide) (fun c6 => ?_) (fun c6 => ?_)
    · refine a_aload_n dX6_store_26 rfl 0 rfl ?_
      refine a_getr kc7 2 dX6_store_27 (by decide) rfl w_fieldLink_RainCover_Sheet_16 (fun v7 => ?_)
      refine a_iload_n dX6_store_30 rfl 1 rfl ?_
      refine a_iload_n dX6_store_31 rfl 2 rfl ?_
      refine a_i2s dX6_store_32 ?_
      refine a_iast dX6_store_33 (fun h8 => ?_)
      refine a_goto 44 dX6_store_34 (by decide) ?_
      exact a_vret dX6_store_44 rfl rfl (by decide) (by decide)
    · refine a_aload_n dX6_store_37 rfl 0 rfl ?_
      refine a_getr kc7 2 dX6_store_38 (by decide) rfl w_fieldLink_RainCover_Sheet_16 (fun v9 => ?_)
      refine a_iload_n dX6_store_41 rfl 1 rfl ?_
      refine a_iload_n dX6_store_42 rfl 2 rfl ?_
      refine a_iast dX6_store_43 (fun h10 => ?_)
      exact a_vret dX6_store_44 rfl rfl (by decide) (by decide)
theorem dX11_cell_0 : decode cX11_cell 0 = .ok (.aload_n 0, 1) := by decide +kernel
theorem dX11_cell_1 : decode cX11_cell 1 = .ok (.iload_n 1, 1) := by decide +kernel
theorem dX11_cell_2 : decode cX11_cell 2 = .ok (.invokevirtual 150, 3) := by decide +kernel
theorem dX11_cell_5 : decode cX11_cell 5 = .ok (.ifCond .ne 6, 3) := by decide +kernel
theorem dX11_cell_8 : decode cX11_cell 8 = .ok (.bipush (-2), 2) := by decide +kernel
theorem dX11_cell_10 : decode cX11_cell 10 = .ok (.ireturn, 1) := by decide +kernel
theorem dX11_cell_11 : decode cX11_cell 11 = .ok (.aload_n 0, 1) := by decide +kernel
theorem dX11_cell_12 : decode cX11_cell 12 = .ok (.getfield 69, 3) := by decide +kernel
theorem dX11_cell_15 : decode cX11_cell 15 = .ok (.iload_n 1, 1) := by decide +kernel
theorem dX11_cell_16 : decode cX11_cell 16 = .ok (.aaload, 1) := by decide +kernel
theorem dX11_cell_17 : decode cX11_cell 17 = .ok (.astore 4, 2) := by decide +kernel
theorem dX11_cell_19 : decode cX11_cell 19 = .ok (.aload 4, 2) := by decide +kernel
theorem dX11_cell_21 : decode cX11_cell 21 = .ok (.invokevirtual 156, 3) := by decide +kernel
theorem dX11_cell_24 : decode cX11_cell 24 = .ok (.ifCond .eq 6, 3) := by decide +kernel
theorem dX11_cell_27 : decode cX11_cell 27 = .ok (.bipush (-11), 2) := by decide +kernel
theorem dX11_cell_29 : decode cX11_cell 29 = .ok (.ireturn, 1) := by decide +kernel
theorem dX11_cell_30 : decode cX11_cell 30 = .ok (.aload 4, 2) := by decide +kernel
theorem dX11_cell_32 : decode cX11_cell 32 = .ok (.iload_n 2, 1) := by decide +kernel
theorem dX11_cell_33 : decode cX11_cell 33 = .ok (.iconst 1, 1) := by decide +kernel
theorem dX11_cell_34 : decode cX11_cell 34 = .ok (.invokevirtual 163, 3) := by decide +kernel
theorem dX11_cell_37 : decode cX11_cell 37 = .ok (.ifCond .ne 6, 3) := by decide +kernel
theorem dX11_cell_40 : decode cX11_cell 40 = .ok (.bipush (-12), 2) := by decide +kernel
theorem dX11_cell_42 : decode cX11_cell 42 = .ok (.ireturn, 1) := by decide +kernel
theorem dX11_cell_43 : decode cX11_cell 43 = .ok (.aload 4, 2) := by decide +kernel
theorem dX11_cell_45 : decode cX11_cell 45 = .ok (.iload_n 2, 1) := by decide +kernel
theorem dX11_cell_46 : decode cX11_cell 46 = .ok (.iload_n 3, 1) := by decide +kernel
theorem dX11_cell_47 : decode cX11_cell 47 = .ok (.invokevirtual 481, 3) := by decide +kernel
theorem dX11_cell_50 : decode cX11_cell 50 = .ok (.iconst 1, 1) := by decide +kernel
theorem dX11_cell_51 : decode cX11_cell 51 = .ok (.ireturn, 1) := by decide +kernel
abbrev M_X11_cell : MI := (RX11, cX11_cell, 5, (some .int), ({ frames := 2, cells := 0, slots := 0, locals := 43 } : Room), 0, 0, false)
def f_X11_cell (h0 : AH) (p0 : Nat) (p1 : Int32) (p2 : Int32) (p3 : Int32) : Option (Int32 × AH) := if kd h0 p0 = 12 + 1 then (f_X11_isSheet h0 p0 p1).bind fun v1 => (if v1 = 0 then some ((-2), h0) else (xgr h0 p0 12 12).bind fun v3 => (xaa h0 v3 p1).bind fun v4 => (f_X6_isMissing h0 v4).bind fun v5 => (if v5 = 0 then (f_X6_hasItems h0 v4 p2 1).bind fun v7 => (if v7 = 0 then some ((-12), h0) else (f_X6_store h0 v4 p2 p3).bind fun q9 => some (1, q9)) else some ((-11), h0))) else none
theorem g_X11_cell {h0 : AH} {p0 : Nat} {p1 : Int32} {p2 : Int32} {p3 : Int32} {x : (Int32 × AH)} (e : f_X11_cell h0 p0 p1 p2 p3 = some x) : kd h0 p0 = 12 + 1 := by
  unfold f_X11_cell at e
  by_cases hk : kd h0 p0 = 12 + 1
  · exact hk
  · rw [if_neg hk] at e
    cases e
theorem km_X11_cell : KM yX11_cell M_X11_cell 3 := ⟨in_tb 1176 (by decide +kernel) rfl, in_tb 1 (by decide +kernel) rfl, by decide +kernel, rfl, rfl⟩
theorem hm_X11_cell : M_X11_cell.2.2.2.2.2.1 = 0 ∧ M_X11_cell.2.2.2.2.2.2.1 = 0 := ⟨rfl, rfl⟩
section
variable {l : Launch} {g : GG}
end
set_option maxRecDepth 100000 in
set_option maxHeartbeats 4000000 in
theorem c_X11_cell (l : Launch) (g : GG) (h0 : AH) (p0 : Nat) (p1 : Int32) (p2 : Int32) (p3 : Int32) : CN l g yX11_cell M_X11_cell false [.ref p0, .int p1, .int p2, .int p3] h0 rSi (f_X11_cell h0 p0 p1 p2 p3) := by
  refine CN.of (by decide) rfl (fun hh => by first | rfl | cases hh) (Nat.le_of_ble_eq_true rfl) ?_
  unfold f_X11_cell
  refine a_gd (fun hkd => ?_)
  refine a_aload_n dX11_cell_0 rfl 0 rfl ?_
  refine a_iload_n dX11_cell_1 rfl 1 rfl ?_
  refine a_cV_Pi (r := p0) (ci := 12) (as := [.int p1]) (st := []) dX11_cell_2 (c_X11_isSheet l g h0 p0 p1) rfl km_X11_isSheet (hm_X11_isSheet) rfl (by decide) rfl (fun _ ee => g_X11_isSheet ee) w_methodLink_RainCover_150 w_instanceMethod_RainCover_isSheet__I_Z w_selects_RainCover_RainCover_isSheet__I_Z_RainCover_isSheet__I_Z ⟨⟨by decide, by decide⟩, ⟨by decide, by decide⟩⟩ (Nat.le_of_ble_eq_true rfl) (fun v1 => ?_)
  refine a_if_ne 11 dX11_cell_5 (by decide) (fun c2 => ?_) (fun c2 => ?_)
  · refine a_bipush (v := (-2)) dX11_cell_8 (by decide) ?_
    exact a_iret dX11_cell_10 rfl rfl (by decide) (by decide)
  · refine a_aload_n dX11_cell_11 rfl 0 rfl ?_
    refine a_getr kc12 12 dX11_cell_12 (by decide) rfl w_fieldLink_RainCover_69 (fun v3 => ?_)
    refine a_iload_n dX11_cell_15 rfl 1 rfl ?_
    refine a_aald dX11_cell_16 (fun v4 => ?_)
    refine a_astore (lc2 := [(4, .ref v4), (0, .ref p0), (1, .int p1), (2, .int p2), (3, .int p3)]) dX11_cell_17 (by decide) rfl ?_
    refine a_aload dX11_cell_19 0 rfl ?_
    refine a_cV_Pi (r := v4) (ci := 7) (as := []) (st := []) dX11_cell_21 (c_X6_isMissing l g h0 v4) rfl km_X6_isMissing (hm_X6_isMissing) rfl (by decide) rfl (fun _ ee => g_X6_isMissing ee) w_methodLink_RainCover_156 w_instanceMethod_RainCover_Sheet_isMissing___Z w_selects_RainCover_Sheet_RainCover_Sheet_isMissing___Z_RainCover_Sheet_isMissing___Z ⟨⟨by decide, by decide⟩, ⟨by decide, by decide⟩⟩ (Nat.le_of_ble_eq_true rfl) (fun v5 => ?_)
    refine a_if_eq 30 dX11_cell_24 (by decide) (fun c6 => ?_) (fun c6 => ?_)
    · refine a_aload dX11_cell_30 0 rfl ?_
      refine a_iload_n dX11_cell_32 rfl 3 rfl ?_
      refine a_iconst (v := 1) dX11_cell_33 (by decide) ?_
      refine a_cV_Pi (r := v4) (ci := 7) (as := [.int p2, .int 1]) (st := []) dX11_cell_34 (c_X6_hasItems l g h0 v4 p2 1) rfl km_X6_hasItems (hm_X6_hasItems) rfl (by decide) rfl (fun _ ee => g_X6_hasItems ee) w_methodLink_RainCover_163 w_instanceMethod_RainCover_Sheet_hasItems__II_Z w_selects_RainCover_Sheet_RainCover_Sheet_hasItems__II_Z_RainCover_Sheet_hasItems__II_Z ⟨⟨by decide, by decide⟩, ⟨by decide, by decide⟩⟩ (Nat.le_of_ble_eq_true rfl) (fun v7 => ?_)
      refine a_if_ne 43 dX11_cell_37 (by decide) (fun c8 => ?_) (fun c8 => ?_)
      · refine a_bipush (v := (-12)) dX11_cell_40 (by decide) ?_
        exact a_iret dX11_cell_42 rfl rfl (by decide) (by decide)
      · refine a_aload dX11_cell_43 0 rfl ?_
        refine a_iload_n dX11_cell_45 rfl 3 rfl ?_
        refine a_iload_n dX11_cell_46 rfl 4 rfl ?_
        refine a_cV_Sv (r := v4) (ci := 7) (as := [.int p2, .int p3]) (st := []) dX11_cell_47 (c_X6_store l g h0 v4 p2 p3) rfl km_X6_store (hm_X6_store) rfl (by decide) rfl (fun _ ee => g_X6_store ee) w_methodLink_RainCover_481 w_instanceMethod_RainCover_Sheet_store__II_V w_selects_RainCover_Sheet_RainCover_Sheet_store__II_V_RainCover_Sheet_store__II_V ⟨⟨by decide, by decide⟩, ⟨by decide, by decide⟩⟩ (Nat.le_of_ble_eq_true rfl) (fun q9 => ?_)
        refine a_iconst (v := 1) dX11_cell_50 (by decide) ?_
        exact a_iret dX11_cell_51 rfl rfl (by decide) (by decide)
    · refine a_bipush (v := (-11)) dX11_cell_27 (by decide) ?_
      exact a_iret dX11_cell_29 rfl rfl (by decide) (by decide)
theorem dX11_copy_0 : decode cX11_copy 0 = .ok (.aload_n 0, 1) := by decide +kernel
theorem dX11_copy_1 : decode cX11_copy 1 = .ok (.iload_n 1, 1) := by decide +kernel
theorem dX11_copy_2 : decode cX11_copy 2 = .ok (.invokevirtual 150, 3) := by decide +kernel
theorem dX11_copy_5 : decode cX11_copy 5 = .ok (.ifCond .eq 11, 3) := by decide +kernel
theorem dX11_copy_8 : decode cX11_copy 8 = .ok (.aload_n 0, 1) := by decide +kernel
theorem dX11_copy_9 : decode cX11_copy 9 = .ok (.iload_n 3, 1) := by decide +kernel
theorem dX11_copy_10 : decode cX11_copy 10 = .ok (.invokevirtual 150, 3) := by decide +kernel
theorem dX11_copy_13 : decode cX11_copy 13 = .ok (.ifCond .ne 6, 3) := by decide +kernel
theorem dX11_copy_16 : decode cX11_copy 16 = .ok (.bipush (-2), 2) := by decide +kernel
theorem dX11_copy_18 : decode cX11_copy 18 = .ok (.ireturn, 1) := by decide +kernel
theorem dX11_copy_19 : decode cX11_copy 19 = .ok (.aload_n 0, 1) := by decide +kernel
theorem dX11_copy_20 : decode cX11_copy 20 = .ok (.getfield 69, 3) := by decide +kernel
theorem dX11_copy_23 : decode cX11_copy 23 = .ok (.iload_n 1, 1) := by decide +kernel
theorem dX11_copy_24 : decode cX11_copy 24 = .ok (.aaload, 1) := by decide +kernel
theorem dX11_copy_25 : decode cX11_copy 25 = .ok (.astore 6, 2) := by decide +kernel
theorem dX11_copy_27 : decode cX11_copy 27 = .ok (.aload_n 0, 1) := by decide +kernel
theorem dX11_copy_28 : decode cX11_copy 28 = .ok (.getfield 69, 3) := by decide +kernel
theorem dX11_copy_31 : decode cX11_copy 31 = .ok (.iload_n 3, 1) := by decide +kernel
theorem dX11_copy_32 : decode cX11_copy 32 = .ok (.aaload, 1) := by decide +kernel
theorem dX11_copy_33 : decode cX11_copy 33 = .ok (.astore 7, 2) := by decide +kernel
theorem dX11_copy_35 : decode cX11_copy 35 = .ok (.aload 6, 2) := by decide +kernel
theorem dX11_copy_37 : decode cX11_copy 37 = .ok (.invokevirtual 156, 3) := by decide +kernel
theorem dX11_copy_40 : decode cX11_copy 40 = .ok (.ifCond .ne 11, 3) := by decide +kernel
theorem dX11_copy_43 : decode cX11_copy 43 = .ok (.aload 7, 2) := by decide +kernel
theorem dX11_copy_45 : decode cX11_copy 45 = .ok (.invokevirtual 156, 3) := by decide +kernel
theorem dX11_copy_48 : decode cX11_copy 48 = .ok (.ifCond .eq 6, 3) := by decide +kernel
theorem dX11_copy_51 : decode cX11_copy 51 = .ok (.bipush (-11), 2) := by decide +kernel
theorem dX11_copy_53 : decode cX11_copy 53 = .ok (.ireturn, 1) := by decide +kernel
theorem dX11_copy_54 : decode cX11_copy 54 = .ok (.aload 6, 2) := by decide +kernel
theorem dX11_copy_56 : decode cX11_copy 56 = .ok (.getfield 160, 3) := by decide +kernel
theorem dX11_copy_59 : decode cX11_copy 59 = .ok (.aload 7, 2) := by decide +kernel
theorem dX11_copy_61 : decode cX11_copy 61 = .ok (.getfield 160, 3) := by decide +kernel
theorem dX11_copy_64 : decode cX11_copy 64 = .ok (.if_icmp .eq 6, 3) := by decide +kernel
theorem dX11_copy_67 : decode cX11_copy 67 = .ok (.bipush (-13), 2) := by decide +kernel
theorem dX11_copy_69 : decode cX11_copy 69 = .ok (.ireturn, 1) := by decide +kernel
theorem dX11_copy_70 : decode cX11_copy 70 = .ok (.aload 6, 2) := by decide +kernel
theorem dX11_copy_72 : decode cX11_copy 72 = .ok (.iload_n 2, 1) := by decide +kernel
theorem dX11_copy_73 : decode cX11_copy 73 = .ok (.iload 5, 2) := by decide +kernel
theorem dX11_copy_75 : decode cX11_copy 75 = .ok (.invokevirtual 163, 3) := by decide +kernel
theorem dX11_copy_78 : decode cX11_copy 78 = .ok (.ifCond .eq 15, 3) := by decide +kernel
theorem dX11_copy_81 : decode cX11_copy 81 = .ok (.aload 7, 2) := by decide +kernel
theorem dX11_copy_83 : decode cX11_copy 83 = .ok (.iload 4, 2) := by decide +kernel
theorem dX11_copy_85 : decode cX11_copy 85 = .ok (.iload 5, 2) := by decide +kernel
theorem dX11_copy_87 : decode cX11_copy 87 = .ok (.invokevirtual 163, 3) := by decide +kernel
theorem dX11_copy_90 : decode cX11_copy 90 = .ok (.ifCond .ne 6, 3) := by decide +kernel
theorem dX11_copy_93 : decode cX11_copy 93 = .ok (.bipush (-12), 2) := by decide +kernel
theorem dX11_copy_95 : decode cX11_copy 95 = .ok (.ireturn, 1) := by decide +kernel
theorem dX11_copy_96 : decode cX11_copy 96 = .ok (.aload 6, 2) := by decide +kernel
theorem dX11_copy_98 : decode cX11_copy 98 = .ok (.getfield 166, 3) := by decide +kernel
theorem dX11_copy_101 : decode cX11_copy 101 = .ok (.iload_n 2, 1) := by decide +kernel
theorem dX11_copy_102 : decode cX11_copy 102 = .ok (.aload 7, 2) := by decide +kernel
theorem dX11_copy_104 : decode cX11_copy 104 = .ok (.getfield 166, 3) := by decide +kernel
theorem dX11_copy_107 : decode cX11_copy 107 = .ok (.iload 4, 2) := by decide +kernel
theorem dX11_copy_109 : decode cX11_copy 109 = .ok (.iload 5, 2) := by decide +kernel
theorem dX11_copy_111 : decode cX11_copy 111 = .ok (.invokestatic 484, 3) := by decide +kernel
theorem dX11_copy_114 : decode cX11_copy 114 = .ok (.iload 5, 2) := by decide +kernel
theorem dX11_copy_116 : decode cX11_copy 116 = .ok (.ireturn, 1) := by decide +kernel
abbrev M_X11_copy : MI := (RX11, cX11_copy, 8, (some .int), ({ frames := 2, cells := 0, slots := 0, locals := 43 } : Room), 0, 0, false)
def f_X11_copy (h0 : AH) (p0 : Nat) (p1 : Int32) (p2 : Int32) (p3 : Int32) (p4 : Int32) (p5 : Int32) : Option (Int32 × AH) := if kd h0 p0 = 12 + 1 then (f_X11_isSheet h0 p0 p1).bind fun v1 => (if v1 = 0 then some ((-2), h0) else (f_X11_isSheet h0 p0 p3).bind fun v3 => (if v3 = 0 then some ((-2), h0) else (xgr h0 p0 12 12).bind fun v5 => (xaa h0 v5 p1).bind fun v6 => (xgr h0 p0 12 12).bind fun v7 => (xaa h0 v7 p3).bind fun v8 => (f_X6_isMissing h0 v6).bind fun v9 => (if v9 = 0 then (f_X6_isMissing h0 v8).bind fun v11 => (if v11 = 0 then (xgi h0 v6 7 0).bind fun v13 => (xgi h0 v8 7 0).bind fun v14 => (if v13 = v14 then (f_X6_hasItems h0 v6 p2 p5).bind fun v16 => (if v16 = 0 then some ((-12), h0) else (f_X6_hasItems h0 v8 p4 p5).bind fun v18 => (if v18 = 0 then some ((-12), h0) else (xgr h0 v6 7 2).bind fun v20 => (xgr h0 v8 7 2).bind fun v21 => (xcpi h0 v20 p2 v21 p4 p5).bind fun h22 => some (p5, h22))) else some ((-13), h0)) else some ((-11), h0)) else some ((-11), h0)))) else none
theorem g_X11_copy {h0 : AH} {p0 : Nat} {p1 : Int32} {p2 : Int32} {p3 : Int32} {p4 : Int32} {p5 : Int32} {x : (Int32 × AH)} (e : f_X11_copy h0 p0 p1 p2 p3 p4 p5 = some x) : kd h0 p0 = 12 + 1 := by
  unfold f_X11_copy at e
  by_cases hk : kd h0 p0 = 12 + 1
  · exact hk
  · rw [if_neg hk] at e
    cases e
theorem km_X11_copy : KM yX11_copy M_X11_copy 5 := ⟨in_tb 1184 (by decide +kernel) rfl, in_tb 1 (by decide +kernel) rfl, by decide +kernel, rfl, rfl⟩
theorem hm_X11_copy : M_X11_copy.2.2.2.2.2.1 = 0 ∧ M_X11_copy.2.2.2.2.2.2.1 = 0 := ⟨rfl, rfl⟩
section
variable {l : Launch} {g : GG}
end
set_option maxRecDepth 100000 in
set_option maxHeartbeats 4000000 in
theorem c_X11_copy (l : Launch) (g : GG) (h0 : AH) (p0 : Nat) (p1 : Int32) (p2 : Int32) (p3 : Int32) (p4 : Int32) (p5 : Int32) : CN l g yX11_copy M_X11_copy false [.ref p0, .int p1, .int p2, .int p3, .int p4, .int p5] h0 rSi (f_X11_copy h0 p0 p1 p2 p3 p4 p5) := by
  refine CN.of (by decide) rfl (fun hh => by first | rfl | cases hh) (Nat.le_of_ble_eq_true rfl) ?_
  unfold f_X11_copy
  refine a_gd (fun hkd => ?_)
  refine a_aload_n dX11_copy_0 rfl 0 rfl ?_
  refine a_iload_n dX11_copy_1 rfl 1 rfl ?_
  refine a_cV_Pi (r := p0) (ci := 12) (as := [.int p1]) (st := []) dX11_copy_2 (c_X11_isSheet l g h0 p0 p1) rfl km_X11_isSheet (hm_X11_isSheet) rfl (by decide) rfl (fun _ ee => g_X11_isSheet ee) w_methodLink_RainCover_150 w_instanceMethod_RainCover_isSheet__I_Z w_selects_RainCover_RainCover_isSheet__I_Z_RainCover_isSheet__I_Z ⟨⟨by decide, by decide⟩, ⟨by decide, by decide⟩⟩ (Nat.le_of_ble_eq_true rfl) (fun v1 => ?_)
  refine a_if_eq 16 dX11_copy_5 (by decide) (fun c2 => ?_) (fun c2 => ?_)
  · refine a_bipush (v := (-2)) dX11_copy_16 (by decide) ?_
    exact a_iret dX11_copy_18 rfl rfl (by decide) (by decide)
  · refine a_aload_n dX11_copy_8 rfl 0 rfl ?_
    refine a_iload_n dX11_copy_9 rfl 3 rfl ?_
    refine a_cV_Pi (r := p0) (ci := 12) (as := [.int p3]) (st := []) dX11_copy_10 (c_X11_isSheet l g h0 p0 p3) rfl km_X11_isSheet (hm_X11_isSheet) rfl (by decide) rfl (fun _ ee => g_X11_isSheet ee) w_methodLink_RainCover_150 w_instanceMethod_RainCover_isSheet__I_Z w_selects_RainCover_RainCover_isSheet__I_Z_RainCover_isSheet__I_Z ⟨⟨by decide, by decide⟩, ⟨by decide, by decide⟩⟩ (Nat.le_of_ble_eq_true rfl) (fun v3 => ?_)
    refine a_if_ne 19 dX11_copy_13 (by decide) (fun c4 => ?_) (fun c4 => ?_)
    · refine a_bipush (v := (-2)) dX11_copy_16 (by decide) ?_
      exact a_iret dX11_copy_18 rfl rfl (by decide) (by decide)
    · refine a_aload_n dX11_copy_19 rfl 0 rfl ?_
      refine a_getr kc12 12 dX11_copy_20 (by decide) rfl w_fieldLink_RainCover_69 (fun v5 => ?_)
      refine a_iload_n dX11_copy_23 rfl 1 rfl ?_
      refine a_aald dX11_copy_24 (fun v6 => ?_)
      refine a_astore (lc2 := [(6, .ref v6), (0, .ref p0), (1, .int p1), (2, .int p2), (3, .int p3), (4, .int p4), (5, .int p5)]) dX11_copy_25 (by decide) rfl ?_
      refine a_aload_n dX11_copy_27 rfl 1 rfl ?_
      refine a_getr kc12 12 dX11_copy_28 (by decide) rfl w_fieldLink_RainCover_69 (fun v7 => ?_)
      refine a_iload_n dX11_copy_31 rfl 4 rfl ?_
      refine a_aald dX11_copy_32 (fun v8 => ?_)
      refine a_astore (lc2 := [(7, .ref v8), (6, .ref v6), (0, .ref p0), (1, .int p1), (2, .int p2), (3, .int p3), (4, .int p4), (5, .int p5)]) dX11_copy_33 (by decide) rfl ?_
      refine a_aload dX11_copy_35 1 rfl ?_
      refine a_cV_Pi (r := v6) (ci := 7) (as := []) (st := []) dX11_copy_37 (c_X6_isMissing l g h0 v6) rfl km_X6_isMissing (hm_X6_isMissing) rfl (by decide) rfl (fun _ ee => g_X6_isMissing ee) w_methodLink_RainCover_156 w_instanceMethod_RainCover_Sheet_isMissing___Z w_selects_RainCover_Sheet_RainCover_Sheet_isMissing___Z_RainCover_Sheet_isMissing___Z ⟨⟨by decide, by decide⟩, ⟨by decide, by decide⟩⟩ (Nat.le_of_ble_eq_true rfl) (fun v9 => ?_)
      refine a_if_ne 51 dX11_copy_40 (by decide) (fun c10 => ?_) (fun c10 => ?_)
      · refine a_aload dX11_copy_43 0 rfl ?_
        refine a_cV_Pi (r := v8) (ci := 7) (as := []) (st := []) dX11_copy_45 (c_X6_isMissing l g h0 v8) rfl km_X6_isMissing (hm_X6_isMissing) rfl (by decide) rfl (fun _ ee => g_X6_isMissing ee) w_methodLink_RainCover_156 w_instanceMethod_RainCover_Sheet_isMissing___Z w_selects_RainCover_Sheet_RainCover_Sheet_isMissing___Z_RainCover_Sheet_isMissing___Z ⟨⟨by decide, by decide⟩, ⟨by decide, by decide⟩⟩ (Nat.le_of_ble_eq_true rfl) (fun v11 => ?_)
        refine a_if_eq 54 dX11_copy_48 (by decide) (fun c12 => ?_) (fun c12 => ?_)
        · refine a_aload dX11_copy_54 1 rfl ?_
          refine a_geti kc7 0 dX11_copy_56 (by decide) rfl w_fieldLink_RainCover_160 (fun v13 => ?_)
          refine a_aload dX11_copy_59 0 rfl ?_
          refine a_geti kc7 0 dX11_copy_61 (by decide) rfl w_fieldLink_RainCover_160 (fun v14 => ?_)
          refine a_icmp_eq 70 dX11_copy_64 (by decide) (fun c15 => ?_) (fun c15 => ?_)
          · refine a_aload dX11_copy_70 1 rfl ?_
            refine a_iload_n dX11_copy_72 rfl 4 rfl ?_
            refine a_iload dX11_copy_73 7 rfl ?_
            refine a_cV_Pi (r := v6) (ci := 7) (as := [.int p2, .int p5]) (st := []) dX11_copy_75 (c_X6_hasItems l g h0 v6 p2 p5) rfl km_X6_hasItems (hm_X6_hasItems) rfl (by decide) rfl (fun _ ee => g_X6_hasItems ee) w_methodLink_RainCover_163 w_instanceMethod_RainCover_Sheet_hasItems__II_Z w_selects_RainCover_Sheet_RainCover_Sheet_hasItems__II_Z_RainCover_Sheet_hasItems__II_Z ⟨⟨by decide, by decide⟩, ⟨by decide, by decide⟩⟩ (Nat.le_of_ble_eq_true rfl) (fun v16 => ?_)
            refine a_if_eq 93 dX11_copy_78 (by decide) (fun c17 => ?_) (fun c17 => ?_)
            · refine a_bipush (v := (-12)) dX11_copy_93 (by decide) ?_
              exact a_iret dX11_copy_95 rfl rfl (by decide) (by decide)
            · refine a_aload dX11_copy_81 0 rfl ?_
              refine a_iload dX11_copy_83 6 rfl ?_
              refine a_iload dX11_copy_85 7 rfl ?_
              refine a_cV_Pi (r := v8) (ci := 7) (as := [.int p4, .int p5]) (st := []) dX11_copy_87 (c_X6_hasItems l g h0 v8 p4 p5) rfl km_X6_hasItems (hm_X6_hasItems) rfl (by decide) rfl (fun _ ee => g_X6_hasItems ee) w_methodLink_RainCover_163 w_instanceMethod_RainCover_Sheet_hasItems__II_Z w_selects_RainCover_Sheet_RainCover_Sheet_hasItems__II_Z_RainCover_Sheet_hasItems__II_Z ⟨⟨by decide, by decide⟩, ⟨by decide, by decide⟩⟩ (Nat.le_of_ble_eq_true rfl) (fun v18 => ?_)
              refine a_if_ne 96 dX11_copy_90 (by decide) (fun c19 => ?_) (fun c19 => ?_)
              · refine a_bipush (v := (-12)) dX11_copy_93 (by decide) ?_
                exact a_iret dX11_copy_95 rfl rfl (by decide) (by decide)
              · refine a_aload dX11_copy_96 1 rfl ?_
                refine a_getr kc7 2 dX11_copy_98 (by decide) rfl w_fieldLink_RainCover_166 (fun v20 => ?_)
                refine a_iload_n dX11_copy_101 rfl 4 rfl ?_
                refine a_aload dX11_copy_102 0 rfl ?_
                refine a_getr kc7 2 dX11_copy_104 (by decide) rfl w_fieldLink_RainCover_166 (fun v21 => ?_)
                refine a_iload dX11_copy_107 6 rfl ?_
                refine a_iload dX11_copy_109 7 rfl ?_
                refine a_cpyi dX11_copy_111 w_methodLink_RainCover_484 w_native_java_lang_System_arraycopy__Ljava_lang_Object_ILjava_lang_Object_II_V w_static_java_lang_System_arraycopy__Ljava_lang_Object_ILjava_lang_Object_II_V w_initialized_java_lang_System (by decide) (by decide) (Nat.le_of_ble_eq_true rfl) (fun h22 => ?_)
                refine a_iload dX11_copy_114 7 rfl ?_
                exact a_iret dX11_copy_116 rfl rfl (by decide) (by decide)
          · refine a_bipush (v := (-13)) dX11_copy_67 (by decide) ?_
            exact a_iret dX11_copy_69 rfl rfl (by decide) (by decide)
        · refine a_bipush (v := (-11)) dX11_copy_51 (by decide) ?_
          exact a_iret dX11_copy_53 rfl rfl (by decide) (by decide)
      · refine a_bipush (v := (-11)) dX11_copy_51 (by decide) ?_
        exact a_iret dX11_copy_53 rfl rfl (by decide) (by decide)
theorem dX12_init_0 : decode cX12_init 0 = .ok (.aload_n 0, 1) := by decide +kernel
theorem dX12_init_1 : decode cX12_init 1 = .ok (.invokespecial 3, 3) := by decide +kernel
theorem dX12_init_4 : decode cX12_init 4 = .ok (.aload_n 0, 1) := by decide +kernel
theorem dX12_init_5 : decode cX12_init 5 = .ok (.bipush 8, 2) := by decide +kernel
theorem dX12_init_7 : decode cX12_init 7 = .ok (.newarray .int, 2) := by decide +kernel
theorem dX12_init_9 : decode cX12_init 9 = .ok (.putfield 9, 3) := by decide +kernel
theorem dX12_init_12 : decode cX12_init 12 = .ok (.aload_n 0, 1) := by decide +kernel
theorem dX12_init_13 : decode cX12_init 13 = .ok (.bipush 8, 2) := by decide +kernel
theorem dX12_init_15 : decode cX12_init 15 = .ok (.newarray .int, 2) := by decide +kernel
theorem dX12_init_17 : decode cX12_init 17 = .ok (.putfield 15, 3) := by decide +kernel
theorem dX12_init_20 : decode cX12_init 20 = .ok (.aload_n 0, 1) := by decide +kernel
theorem dX12_init_21 : decode cX12_init 21 = .ok (.bipush 8, 2) := by decide +kernel
theorem dX12_init_23 : decode cX12_init 23 = .ok (.newarray .int, 2) := by decide +kernel
theorem dX12_init_25 : decode cX12_init 25 = .ok (.putfield 18, 3) := by decide +kernel
theorem dX12_init_28 : decode cX12_init 28 = .ok (.aload_n 0, 1) := by decide +kernel
theorem dX12_init_29 : decode cX12_init 29 = .ok (.bipush 8, 2) := by decide +kernel
theorem dX12_init_31 : decode cX12_init 31 = .ok (.newarray .int, 2) := by decide +kernel
theorem dX12_init_33 : decode cX12_init 33 = .ok (.putfield 21, 3) := by decide +kernel
theorem dX12_init_36 : decode cX12_init 36 = .ok (.aload_n 0, 1) := by decide +kernel
theorem dX12_init_37 : decode cX12_init 37 = .ok (.iconst 4, 1) := by decide +kernel
theorem dX12_init_38 : decode cX12_init 38 = .ok (.newarray .int, 2) := by decide +kernel
theorem dX12_init_40 : decode cX12_init 40 = .ok (.dup, 1) := by decide +kernel
theorem dX12_init_41 : decode cX12_init 41 = .ok (.iconst 0, 1) := by decide +kernel
theorem dX12_init_42 : decode cX12_init 42 = .ok (.bipush 40, 2) := by decide +kernel
theorem dX12_init_44 : decode cX12_init 44 = .ok (.iastore, 1) := by decide +kernel
theorem dX12_init_45 : decode cX12_init 45 = .ok (.dup, 1) := by decide +kernel
theorem dX12_init_46 : decode cX12_init 46 = .ok (.iconst 1, 1) := by decide +kernel
theorem dX12_init_47 : decode cX12_init 47 = .ok (.sipush 500, 3) := by decide +kernel
theorem dX12_init_50 : decode cX12_init 50 = .ok (.iastore, 1) := by decide +kernel
theorem dX12_init_51 : decode cX12_init 51 = .ok (.dup, 1) := by decide +kernel
theorem dX12_init_52 : decode cX12_init 52 = .ok (.iconst 2, 1) := by decide +kernel
theorem dX12_init_53 : decode cX12_init 53 = .ok (.bipush 20, 2) := by decide +kernel
theorem dX12_init_55 : decode cX12_init 55 = .ok (.iastore, 1) := by decide +kernel
theorem dX12_init_56 : decode cX12_init 56 = .ok (.dup, 1) := by decide +kernel
theorem dX12_init_57 : decode cX12_init 57 = .ok (.iconst 3, 1) := by decide +kernel
theorem dX12_init_58 : decode cX12_init 58 = .ok (.iconst 0, 1) := by decide +kernel
theorem dX12_init_59 : decode cX12_init 59 = .ok (.iastore, 1) := by decide +kernel
theorem dX12_init_60 : decode cX12_init 60 = .ok (.putfield 24, 3) := by decide +kernel
theorem dX12_init_63 : decode cX12_init 63 = .ok (.aload_n 0, 1) := by decide +kernel
theorem dX12_init_64 : decode cX12_init 64 = .ok (.iconst 4, 1) := by decide +kernel
theorem dX12_init_65 : decode cX12_init 65 = .ok (.newarray .int, 2) := by decide +kernel
theorem dX12_init_67 : decode cX12_init 67 = .ok (.dup, 1) := by decide +kernel
theorem dX12_init_68 : decode cX12_init 68 = .ok (.iconst 0, 1) := by decide +kernel
theorem dX12_init_69 : decode cX12_init 69 = .ok (.sipush 198, 3) := by decide +kernel
theorem dX12_init_72 : decode cX12_init 72 = .ok (.iastore, 1) := by decide +kernel
theorem dX12_init_73 : decode cX12_init 73 = .ok (.dup, 1) := by decide +kernel
theorem dX12_init_74 : decode cX12_init 74 = .ok (.iconst 1, 1) := by decide +kernel
theorem dX12_init_75 : decode cX12_init 75 = .ok (.sipush 9999, 3) := by decide +kernel
theorem dX12_init_78 : decode cX12_init 78 = .ok (.iastore, 1) := by decide +kernel
theorem dX12_init_79 : decode cX12_init 79 = .ok (.dup, 1) := by decide +kernel
theorem dX12_init_80 : decode cX12_init 80 = .ok (.iconst 2, 1) := by decide +kernel
theorem dX12_init_81 : decode cX12_init 81 = .ok (.sipush 300, 3) := by decide +kernel
theorem dX12_init_84 : decode cX12_init 84 = .ok (.iastore, 1) := by decide +kernel
theorem dX12_init_85 : decode cX12_init 85 = .ok (.dup, 1) := by decide +kernel
theorem dX12_init_86 : decode cX12_init 86 = .ok (.iconst 3, 1) := by decide +kernel
theorem dX12_init_87 : decode cX12_init 87 = .ok (.bipush 100, 2) := by decide +kernel
theorem dX12_init_89 : decode cX12_init 89 = .ok (.iastore, 1) := by decide +kernel
theorem dX12_init_90 : decode cX12_init 90 = .ok (.putfield 27, 3) := by decide +kernel
theorem dX12_init_93 : decode cX12_init 93 = .ok (.aload_n 0, 1) := by decide +kernel
theorem dX12_init_94 : decode cX12_init 94 = .ok (.sipush 700, 3) := by decide +kernel
theorem dX12_init_97 : decode cX12_init 97 = .ok (.newarray .boolean, 2) := by decide +kernel
theorem dX12_init_99 : decode cX12_init 99 = .ok (.putfield 30, 3) := by decide +kernel
theorem dX12_init_102 : decode cX12_init 102 = .ok (.aload_n 0, 1) := by decide +kernel
theorem dX12_init_103 : decode cX12_init 103 = .ok (.sipush 700, 3) := by decide +kernel
theorem dX12_init_106 : decode cX12_init 106 = .ok (.newarray .int, 2) := by decide +kernel
theorem dX12_init_108 : decode cX12_init 108 = .ok (.putfield 34, 3) := by decide +kernel
theorem dX12_init_111 : decode cX12_init 111 = .ok (.aload_n 0, 1) := by decide +kernel
theorem dX12_init_112 : decode cX12_init 112 = .ok (.sipush 700, 3) := by decide +kernel
theorem dX12_init_115 : decode cX12_init 115 = .ok (.newarray .int, 2) := by decide +kernel
theorem dX12_init_117 : decode cX12_init 117 = .ok (.putfield 37, 3) := by decide +kernel
theorem dX12_init_120 : decode cX12_init 120 = .ok (.aload_n 0, 1) := by decide +kernel
theorem dX12_init_121 : decode cX12_init 121 = .ok (.sipush 3072, 3) := by decide +kernel
theorem dX12_init_124 : decode cX12_init 124 = .ok (.newarray .int, 2) := by decide +kernel
theorem dX12_init_126 : decode cX12_init 126 = .ok (.putfield 40, 3) := by decide +kernel
theorem dX12_init_129 : decode cX12_init 129 = .ok (.aload_n 0, 1) := by decide +kernel
theorem dX12_init_130 : decode cX12_init 130 = .ok (.sipush 1536, 3) := by decide +kernel
theorem dX12_init_133 : decode cX12_init 133 = .ok (.newarray .int, 2) := by decide +kernel
theorem dX12_init_135 : decode cX12_init 135 = .ok (.putfield 43, 3) := by decide +kernel
theorem dX12_init_138 : decode cX12_init 138 = .ok (.aload_n 0, 1) := by decide +kernel
theorem dX12_init_139 : decode cX12_init 139 = .ok (.bipush 8, 2) := by decide +kernel
theorem dX12_init_141 : decode cX12_init 141 = .ok (.newarray .boolean, 2) := by decide +kernel
theorem dX12_init_143 : decode cX12_init 143 = .ok (.putfield 46, 3) := by decide +kernel
theorem dX12_init_146 : decode cX12_init 146 = .ok (.aload_n 0, 1) := by decide +kernel
theorem dX12_init_147 : decode cX12_init 147 = .ok (.bipush 8, 2) := by decide +kernel
theorem dX12_init_149 : decode cX12_init 149 = .ok (.newarray .int, 2) := by decide +kernel
theorem dX12_init_151 : decode cX12_init 151 = .ok (.putfield 49, 3) := by decide +kernel
theorem dX12_init_154 : decode cX12_init 154 = .ok (.aload_n 0, 1) := by decide +kernel
theorem dX12_init_155 : decode cX12_init 155 = .ok (.bipush 8, 2) := by decide +kernel
theorem dX12_init_157 : decode cX12_init 157 = .ok (.newarray .int, 2) := by decide +kernel
theorem dX12_init_159 : decode cX12_init 159 = .ok (.putfield 52, 3) := by decide +kernel
theorem dX12_init_162 : decode cX12_init 162 = .ok (.aload_n 0, 1) := by decide +kernel
theorem dX12_init_163 : decode cX12_init 163 = .ok (.bipush 8, 2) := by decide +kernel
theorem dX12_init_165 : decode cX12_init 165 = .ok (.newarray .int, 2) := by decide +kernel
theorem dX12_init_167 : decode cX12_init 167 = .ok (.putfield 55, 3) := by decide +kernel
theorem dX12_init_170 : decode cX12_init 170 = .ok (.aload_n 0, 1) := by decide +kernel
theorem dX12_init_171 : decode cX12_init 171 = .ok (.bipush 8, 2) := by decide +kernel
theorem dX12_init_173 : decode cX12_init 173 = .ok (.newarray .int, 2) := by decide +kernel
theorem dX12_init_175 : decode cX12_init 175 = .ok (.putfield 58, 3) := by decide +kernel
theorem dX12_init_178 : decode cX12_init 178 = .ok (.aload_n 0, 1) := by decide +kernel
theorem dX12_init_179 : decode cX12_init 179 = .ok (.bipush 8, 2) := by decide +kernel
theorem dX12_init_181 : decode cX12_init 181 = .ok (.newarray .int, 2) := by decide +kernel
theorem dX12_init_183 : decode cX12_init 183 = .ok (.putfield 61, 3) := by decide +kernel
theorem dX12_init_186 : decode cX12_init 186 = .ok (.aload_n 0, 1) := by decide +kernel
theorem dX12_init_187 : decode cX12_init 187 = .ok (.bipush 32, 2) := by decide +kernel
theorem dX12_init_189 : decode cX12_init 189 = .ok (.newarray .int, 2) := by decide +kernel
theorem dX12_init_191 : decode cX12_init 191 = .ok (.putfield 64, 3) := by decide +kernel
theorem dX12_init_194 : decode cX12_init 194 = .ok (.aload_n 0, 1) := by decide +kernel
theorem dX12_init_195 : decode cX12_init 195 = .ok (.bipush 32, 2) := by decide +kernel
theorem dX12_init_197 : decode cX12_init 197 = .ok (.newarray .int, 2) := by decide +kernel
theorem dX12_init_199 : decode cX12_init 199 = .ok (.putfield 67, 3) := by decide +kernel
theorem dX12_init_202 : decode cX12_init 202 = .ok (.aload_n 0, 1) := by decide +kernel
theorem dX12_init_203 : decode cX12_init 203 = .ok (.bipush 32, 2) := by decide +kernel
theorem dX12_init_205 : decode cX12_init 205 = .ok (.newarray .int, 2) := by decide +kernel
theorem dX12_init_207 : decode cX12_init 207 = .ok (.putfield 70, 3) := by decide +kernel
theorem dX12_init_210 : decode cX12_init 210 = .ok (.aload_n 0, 1) := by decide +kernel
theorem dX12_init_211 : decode cX12_init 211 = .ok (.bipush 32, 2) := by decide +kernel
theorem dX12_init_213 : decode cX12_init 213 = .ok (.newarray .int, 2) := by decide +kernel
theorem dX12_init_215 : decode cX12_init 215 = .ok (.putfield 73, 3) := by decide +kernel
theorem dX12_init_218 : decode cX12_init 218 = .ok (.aload_n 0, 1) := by decide +kernel
theorem dX12_init_219 : decode cX12_init 219 = .ok (.bipush 32, 2) := by decide +kernel
theorem dX12_init_221 : decode cX12_init 221 = .ok (.newarray .boolean, 2) := by decide +kernel
theorem dX12_init_223 : decode cX12_init 223 = .ok (.putfield 76, 3) := by decide +kernel
theorem dX12_init_226 : decode cX12_init 226 = .ok (.aload_n 0, 1) := by decide +kernel
theorem dX12_init_227 : decode cX12_init 227 = .ok (.iconst 4, 1) := by decide +kernel
theorem dX12_init_228 : decode cX12_init 228 = .ok (.newarray .int, 2) := by decide +kernel
theorem dX12_init_230 : decode cX12_init 230 = .ok (.dup, 1) := by decide +kernel
theorem dX12_init_231 : decode cX12_init 231 = .ok (.iconst 0, 1) := by decide +kernel
theorem dX12_init_232 : decode cX12_init 232 = .ok (.bipush 100, 2) := by decide +kernel
theorem dX12_init_234 : decode cX12_init 234 = .ok (.iastore, 1) := by decide +kernel
theorem dX12_init_235 : decode cX12_init 235 = .ok (.dup, 1) := by decide +kernel
theorem dX12_init_236 : decode cX12_init 236 = .ok (.iconst 1, 1) := by decide +kernel
theorem dX12_init_237 : decode cX12_init 237 = .ok (.bipush 80, 2) := by decide +kernel
theorem dX12_init_239 : decode cX12_init 239 = .ok (.iastore, 1) := by decide +kernel
theorem dX12_init_240 : decode cX12_init 240 = .ok (.dup, 1) := by decide +kernel
theorem dX12_init_241 : decode cX12_init 241 = .ok (.iconst 2, 1) := by decide +kernel
theorem dX12_init_242 : decode cX12_init 242 = .ok (.bipush 120, 2) := by decide +kernel
theorem dX12_init_244 : decode cX12_init 244 = .ok (.iastore, 1) := by decide +kernel
theorem dX12_init_245 : decode cX12_init 245 = .ok (.dup, 1) := by decide +kernel
theorem dX12_init_246 : decode cX12_init 246 = .ok (.iconst 3, 1) := by decide +kernel
theorem dX12_init_247 : decode cX12_init 247 = .ok (.bipush 60, 2) := by decide +kernel
theorem dX12_init_249 : decode cX12_init 249 = .ok (.iastore, 1) := by decide +kernel
theorem dX12_init_250 : decode cX12_init 250 = .ok (.putfield 79, 3) := by decide +kernel
theorem dX12_init_253 : decode cX12_init 253 = .ok (.aload_n 0, 1) := by decide +kernel
theorem dX12_init_254 : decode cX12_init 254 = .ok (.bipush 24, 2) := by decide +kernel
theorem dX12_init_256 : decode cX12_init 256 = .ok (.newarray .int, 2) := by decide +kernel
theorem dX12_init_258 : decode cX12_init 258 = .ok (.putfield 82, 3) := by decide +kernel
theorem dX12_init_261 : decode cX12_init 261 = .ok (.aload_n 0, 1) := by decide +kernel
theorem dX12_init_262 : decode cX12_init 262 = .ok (.bipush 24, 2) := by decide +kernel
theorem dX12_init_264 : decode cX12_init 264 = .ok (.newarray .int, 2) := by decide +kernel
theorem dX12_init_266 : decode cX12_init 266 = .ok (.putfield 85, 3) := by decide +kernel
theorem dX12_init_269 : decode cX12_init 269 = .ok (.aload_n 0, 1) := by decide +kernel
theorem dX12_init_270 : decode cX12_init 270 = .ok (.bipush 24, 2) := by decide +kernel
theorem dX12_init_272 : decode cX12_init 272 = .ok (.newarray .int, 2) := by decide +kernel
theorem dX12_init_274 : decode cX12_init 274 = .ok (.putfield 88, 3) := by decide +kernel
theorem dX12_init_277 : decode cX12_init 277 = .ok (.aload_n 0, 1) := by decide +kernel
theorem dX12_init_278 : decode cX12_init 278 = .ok (.bipush 24, 2) := by decide +kernel
theorem dX12_init_280 : decode cX12_init 280 = .ok (.newarray .int, 2) := by decide +kernel
theorem dX12_init_282 : decode cX12_init 282 = .ok (.putfield 91, 3) := by decide +kernel
theorem dX12_init_285 : decode cX12_init 285 = .ok (.aload_n 0, 1) := by decide +kernel
theorem dX12_init_286 : decode cX12_init 286 = .ok (.bipush 24, 2) := by decide +kernel
theorem dX12_init_288 : decode cX12_init 288 = .ok (.newarray .int, 2) := by decide +kernel
theorem dX12_init_290 : decode cX12_init 290 = .ok (.putfield 94, 3) := by decide +kernel
theorem dX12_init_293 : decode cX12_init 293 = .ok (.aload_n 0, 1) := by decide +kernel
theorem dX12_init_294 : decode cX12_init 294 = .ok (.bipush 24, 2) := by decide +kernel
theorem dX12_init_296 : decode cX12_init 296 = .ok (.newarray .int, 2) := by decide +kernel
theorem dX12_init_298 : decode cX12_init 298 = .ok (.putfield 97, 3) := by decide +kernel
theorem dX12_init_301 : decode cX12_init 301 = .ok (.aload_n 0, 1) := by decide +kernel
theorem dX12_init_302 : decode cX12_init 302 = .ok (.bipush 24, 2) := by decide +kernel
theorem dX12_init_304 : decode cX12_init 304 = .ok (.newarray .int, 2) := by decide +kernel
theorem dX12_init_306 : decode cX12_init 306 = .ok (.putfield 100, 3) := by decide +kernel
theorem dX12_init_309 : decode cX12_init 309 = .ok (.aload_n 0, 1) := by decide +kernel
theorem dX12_init_310 : decode cX12_init 310 = .ok (.sipush 384, 3) := by decide +kernel
theorem dX12_init_313 : decode cX12_init 313 = .ok (.newarray .int, 2) := by decide +kernel
theorem dX12_init_315 : decode cX12_init 315 = .ok (.putfield 103, 3) := by decide +kernel
theorem dX12_init_318 : decode cX12_init 318 = .ok (.aload_n 0, 1) := by decide +kernel
theorem dX12_init_319 : decode cX12_init 319 = .ok (.iconst 4, 1) := by decide +kernel
theorem dX12_init_320 : decode cX12_init 320 = .ok (.newarray .int, 2) := by decide +kernel
theorem dX12_init_322 : decode cX12_init 322 = .ok (.putfield 106, 3) := by decide +kernel
theorem dX12_init_325 : decode cX12_init 325 = .ok (.aload_n 0, 1) := by decide +kernel
theorem dX12_init_326 : decode cX12_init 326 = .ok (.bipush 60, 2) := by decide +kernel
theorem dX12_init_328 : decode cX12_init 328 = .ok (.newarray .int, 2) := by decide +kernel
theorem dX12_init_330 : decode cX12_init 330 = .ok (.putfield 109, 3) := by decide +kernel
theorem dX12_init_333 : decode cX12_init 333 = .ok (.aload_n 0, 1) := by decide +kernel
theorem dX12_init_334 : decode cX12_init 334 = .ok (.bipush 60, 2) := by decide +kernel
theorem dX12_init_336 : decode cX12_init 336 = .ok (.newarray .int, 2) := by decide +kernel
theorem dX12_init_338 : decode cX12_init 338 = .ok (.putfield 112, 3) := by decide +kernel
theorem dX12_init_341 : decode cX12_init 341 = .ok (.aload_n 0, 1) := by decide +kernel
theorem dX12_init_342 : decode cX12_init 342 = .ok (.bipush 60, 2) := by decide +kernel
theorem dX12_init_344 : decode cX12_init 344 = .ok (.newarray .int, 2) := by decide +kernel
theorem dX12_init_346 : decode cX12_init 346 = .ok (.putfield 115, 3) := by decide +kernel
theorem dX12_init_349 : decode cX12_init 349 = .ok (.aload_n 0, 1) := by decide +kernel
theorem dX12_init_350 : decode cX12_init 350 = .ok (.bipush 60, 2) := by decide +kernel
theorem dX12_init_352 : decode cX12_init 352 = .ok (.newarray .int, 2) := by decide +kernel
theorem dX12_init_354 : decode cX12_init 354 = .ok (.putfield 118, 3) := by decide +kernel
theorem dX12_init_357 : decode cX12_init 357 = .ok (.aload_n 0, 1) := by decide +kernel
theorem dX12_init_358 : decode cX12_init 358 = .ok (.bipush 80, 2) := by decide +kernel
theorem dX12_init_360 : decode cX12_init 360 = .ok (.newarray .int, 2) := by decide +kernel
theorem dX12_init_362 : decode cX12_init 362 = .ok (.putfield 121, 3) := by decide +kernel
theorem dX12_init_365 : decode cX12_init 365 = .ok (.aload_n 0, 1) := by decide +kernel
theorem dX12_init_366 : decode cX12_init 366 = .ok (.bipush 80, 2) := by decide +kernel
theorem dX12_init_368 : decode cX12_init 368 = .ok (.newarray .int, 2) := by decide +kernel
theorem dX12_init_370 : decode cX12_init 370 = .ok (.putfield 124, 3) := by decide +kernel
theorem dX12_init_373 : decode cX12_init 373 = .ok (.aload_n 0, 1) := by decide +kernel
theorem dX12_init_374 : decode cX12_init 374 = .ok (.bipush 80, 2) := by decide +kernel
theorem dX12_init_376 : decode cX12_init 376 = .ok (.newarray .int, 2) := by decide +kernel
theorem dX12_init_378 : decode cX12_init 378 = .ok (.putfield 127, 3) := by decide +kernel
theorem dX12_init_381 : decode cX12_init 381 = .ok (.aload_n 0, 1) := by decide +kernel
theorem dX12_init_382 : decode cX12_init 382 = .ok (.bipush 80, 2) := by decide +kernel
theorem dX12_init_384 : decode cX12_init 384 = .ok (.newarray .int, 2) := by decide +kernel
theorem dX12_init_386 : decode cX12_init 386 = .ok (.putfield 130, 3) := by decide +kernel
theorem dX12_init_389 : decode cX12_init 389 = .ok (.aload_n 0, 1) := by decide +kernel
theorem dX12_init_390 : decode cX12_init 390 = .ok (.bipush 8, 2) := by decide +kernel
theorem dX12_init_392 : decode cX12_init 392 = .ok (.newarray .int, 2) := by decide +kernel
theorem dX12_init_394 : decode cX12_init 394 = .ok (.putfield 133, 3) := by decide +kernel
theorem dX12_init_397 : decode cX12_init 397 = .ok (.aload_n 0, 1) := by decide +kernel
theorem dX12_init_398 : decode cX12_init 398 = .ok (.bipush 8, 2) := by decide +kernel
theorem dX12_init_400 : decode cX12_init 400 = .ok (.newarray .int, 2) := by decide +kernel
theorem dX12_init_402 : decode cX12_init 402 = .ok (.putfield 136, 3) := by decide +kernel
theorem dX12_init_405 : decode cX12_init 405 = .ok (.aload_n 0, 1) := by decide +kernel
theorem dX12_init_406 : decode cX12_init 406 = .ok (.sipush 200, 3) := by decide +kernel
theorem dX12_init_409 : decode cX12_init 409 = .ok (.newarray .int, 2) := by decide +kernel
theorem dX12_init_411 : decode cX12_init 411 = .ok (.putfield 139, 3) := by decide +kernel
theorem dX12_init_414 : decode cX12_init 414 = .ok (.aload_n 0, 1) := by decide +kernel
theorem dX12_init_415 : decode cX12_init 415 = .ok (.sipush 200, 3) := by decide +kernel
theorem dX12_init_418 : decode cX12_init 418 = .ok (.newarray .int, 2) := by decide +kernel
theorem dX12_init_420 : decode cX12_init 420 = .ok (.putfield 142, 3) := by decide +kernel
theorem dX12_init_423 : decode cX12_init 423 = .ok (.aload_n 0, 1) := by decide +kernel
theorem dX12_init_424 : decode cX12_init 424 = .ok (.sipush 200, 3) := by decide +kernel
theorem dX12_init_427 : decode cX12_init 427 = .ok (.newarray .int, 2) := by decide +kernel
theorem dX12_init_429 : decode cX12_init 429 = .ok (.putfield 145, 3) := by decide +kernel
theorem dX12_init_432 : decode cX12_init 432 = .ok (.aload_n 0, 1) := by decide +kernel
theorem dX12_init_433 : decode cX12_init 433 = .ok (.sipush 200, 3) := by decide +kernel
theorem dX12_init_436 : decode cX12_init 436 = .ok (.newarray .int, 2) := by decide +kernel
theorem dX12_init_438 : decode cX12_init 438 = .ok (.putfield 148, 3) := by decide +kernel
theorem dX12_init_441 : decode cX12_init 441 = .ok (.aload_n 0, 1) := by decide +kernel
theorem dX12_init_442 : decode cX12_init 442 = .ok (.bipush 20, 2) := by decide +kernel
theorem dX12_init_444 : decode cX12_init 444 = .ok (.newarray .int, 2) := by decide +kernel
theorem dX12_init_446 : decode cX12_init 446 = .ok (.putfield 151, 3) := by decide +kernel
theorem dX12_init_449 : decode cX12_init 449 = .ok (.aload_n 0, 1) := by decide +kernel
theorem dX12_init_450 : decode cX12_init 450 = .ok (.bipush 20, 2) := by decide +kernel
theorem dX12_init_452 : decode cX12_init 452 = .ok (.newarray .int, 2) := by decide +kernel
theorem dX12_init_454 : decode cX12_init 454 = .ok (.putfield 154, 3) := by decide +kernel
theorem dX12_init_457 : decode cX12_init 457 = .ok (.aload_n 0, 1) := by decide +kernel
theorem dX12_init_458 : decode cX12_init 458 = .ok (.bipush 20, 2) := by decide +kernel
theorem dX12_init_460 : decode cX12_init 460 = .ok (.newarray .int, 2) := by decide +kernel
theorem dX12_init_462 : decode cX12_init 462 = .ok (.putfield 157, 3) := by decide +kernel
theorem dX12_init_465 : decode cX12_init 465 = .ok (.aload_n 0, 1) := by decide +kernel
theorem dX12_init_466 : decode cX12_init 466 = .ok (.bipush 20, 2) := by decide +kernel
theorem dX12_init_468 : decode cX12_init 468 = .ok (.newarray .int, 2) := by decide +kernel
theorem dX12_init_470 : decode cX12_init 470 = .ok (.putfield 160, 3) := by decide +kernel
theorem dX12_init_473 : decode cX12_init 473 = .ok (.aload_n 0, 1) := by decide +kernel
theorem dX12_init_474 : decode cX12_init 474 = .ok (.bipush 20, 2) := by decide +kernel
theorem dX12_init_476 : decode cX12_init 476 = .ok (.newarray .int, 2) := by decide +kernel
theorem dX12_init_478 : decode cX12_init 478 = .ok (.putfield 163, 3) := by decide +kernel
theorem dX12_init_481 : decode cX12_init 481 = .ok (.aload_n 0, 1) := by decide +kernel
theorem dX12_init_482 : decode cX12_init 482 = .ok (.iconst 1, 1) := by decide +kernel
theorem dX12_init_483 : decode cX12_init 483 = .ok (.putfield 166, 3) := by decide +kernel
theorem dX12_init_486 : decode cX12_init 486 = .ok (.aload_n 0, 1) := by decide +kernel
theorem dX12_init_487 : decode cX12_init 487 = .ok (.bipush 100, 2) := by decide +kernel
theorem dX12_init_489 : decode cX12_init 489 = .ok (.newarray .int, 2) := by decide +kernel
theorem dX12_init_491 : decode cX12_init 491 = .ok (.putfield 170, 3) := by decide +kernel
theorem dX12_init_494 : decode cX12_init 494 = .ok (.aload_n 0, 1) := by decide +kernel
theorem dX12_init_495 : decode cX12_init 495 = .ok (.bipush 20, 2) := by decide +kernel
theorem dX12_init_497 : decode cX12_init 497 = .ok (.newarray .int, 2) := by decide +kernel
theorem dX12_init_499 : decode cX12_init 499 = .ok (.putfield 173, 3) := by decide +kernel
theorem dX12_init_502 : decode cX12_init 502 = .ok (.aload_n 0, 1) := by decide +kernel
theorem dX12_init_503 : decode cX12_init 503 = .ok (.iconst 3, 1) := by decide +kernel
theorem dX12_init_504 : decode cX12_init 504 = .ok (.newarray .int, 2) := by decide +kernel
theorem dX12_init_506 : decode cX12_init 506 = .ok (.dup, 1) := by decide +kernel
theorem dX12_init_507 : decode cX12_init 507 = .ok (.iconst 0, 1) := by decide +kernel
theorem dX12_init_508 : decode cX12_init 508 = .ok (.iconst (-1), 1) := by decide +kernel
theorem dX12_init_509 : decode cX12_init 509 = .ok (.iastore, 1) := by decide +kernel
theorem dX12_init_510 : decode cX12_init 510 = .ok (.dup, 1) := by decide +kernel
theorem dX12_init_511 : decode cX12_init 511 = .ok (.iconst 1, 1) := by decide +kernel
theorem dX12_init_512 : decode cX12_init 512 = .ok (.iconst (-1), 1) := by decide +kernel
theorem dX12_init_513 : decode cX12_init 513 = .ok (.iastore, 1) := by decide +kernel
theorem dX12_init_514 : decode cX12_init 514 = .ok (.dup, 1) := by decide +kernel
theorem dX12_init_515 : decode cX12_init 515 = .ok (.iconst 2, 1) := by decide +kernel
theorem dX12_init_516 : decode cX12_init 516 = .ok (.iconst (-1), 1) := by decide +kernel
theorem dX12_init_517 : decode cX12_init 517 = .ok (.iastore, 1) := by decide +kernel
theorem dX12_init_518 : decode cX12_init 518 = .ok (.putfield 176, 3) := by decide +kernel
theorem dX12_init_521 : decode cX12_init 521 = .ok (.aload_n 0, 1) := by decide +kernel
theorem dX12_init_522 : decode cX12_init 522 = .ok (.iconst 3, 1) := by decide +kernel
theorem dX12_init_523 : decode cX12_init 523 = .ok (.newarray .int, 2) := by decide +kernel
theorem dX12_init_525 : decode cX12_init 525 = .ok (.putfield 179, 3) := by decide +kernel
theorem dX12_init_528 : decode cX12_init 528 = .ok (.aload_n 0, 1) := by decide +kernel
theorem dX12_init_529 : decode cX12_init 529 = .ok (.bipush 120, 2) := by decide +kernel
theorem dX12_init_531 : decode cX12_init 531 = .ok (.newarray .int, 2) := by decide +kernel
theorem dX12_init_533 : decode cX12_init 533 = .ok (.putfield 182, 3) := by decide +kernel
theorem dX12_init_536 : decode cX12_init 536 = .ok (.aload_n 0, 1) := by decide +kernel
theorem dX12_init_537 : decode cX12_init 537 = .ok (.bipush 79, 2) := by decide +kernel
theorem dX12_init_539 : decode cX12_init 539 = .ok (.newarray .int, 2) := by decide +kernel
theorem dX12_init_541 : decode cX12_init 541 = .ok (.dup, 1) := by decide +kernel
theorem dX12_init_542 : decode cX12_init 542 = .ok (.iconst 0, 1) := by decide +kernel
theorem dX12_init_543 : decode cX12_init 543 = .ok (.bipush 112, 2) := by decide +kernel
theorem dX12_init_545 : decode cX12_init 545 = .ok (.iastore, 1) := by decide +kernel
theorem dX12_init_546 : decode cX12_init 546 = .ok (.dup, 1) := by decide +kernel
theorem dX12_init_547 : decode cX12_init 547 = .ok (.iconst 1, 1) := by decide +kernel
theorem dX12_init_548 : decode cX12_init 548 = .ok (.bipush 97, 2) := by decide +kernel
theorem dX12_init_550 : decode cX12_init 550 = .ok (.iastore, 1) := by decide +kernel
theorem dX12_init_551 : decode cX12_init 551 = .ok (.dup, 1) := by decide +kernel
theorem dX12_init_552 : decode cX12_init 552 = .ok (.iconst 2, 1) := by decide +kernel
theorem dX12_init_553 : decode cX12_init 553 = .ok (.bipush 121, 2) := by decide +kernel
theorem dX12_init_555 : decode cX12_init 555 = .ok (.iastore, 1) := by decide +kernel
theorem dX12_init_556 : decode cX12_init 556 = .ok (.dup, 1) := by decide +kernel
theorem dX12_init_557 : decode cX12_init 557 = .ok (.iconst 3, 1) := by decide +kernel
theorem dX12_init_558 : decode cX12_init 558 = .ok (.bipush 32, 2) := by decide +kernel
theorem dX12_init_560 : decode cX12_init 560 = .ok (.iastore, 1) := by decide +kernel
theorem dX12_init_561 : decode cX12_init 561 = .ok (.dup, 1) := by decide +kernel
theorem dX12_init_562 : decode cX12_init 562 = .ok (.iconst 4, 1) := by decide +kernel
theorem dX12_init_563 : decode cX12_init 563 = .ok (.iconst 0, 1) := by decide +kernel
theorem dX12_init_564 : decode cX12_init 564 = .ok (.iastore, 1) := by decide +kernel
theorem dX12_init_565 : decode cX12_init 565 = .ok (.dup, 1) := by decide +kernel
theorem dX12_init_566 : decode cX12_init 566 = .ok (.iconst 5, 1) := by decide +kernel
theorem dX12_init_567 : decode cX12_init 567 = .ok (.bipush 32, 2) := by decide +kernel
theorem dX12_init_569 : decode cX12_init 569 = .ok (.iastore, 1) := by decide +kernel
theorem dX12_init_570 : decode cX12_init 570 = .ok (.dup, 1) := by decide +kernel
theorem dX12_init_571 : decode cX12_init 571 = .ok (.bipush 6, 2) := by decide +kernel
theorem dX12_init_573 : decode cX12_init 573 = .ok (.bipush 105, 2) := by decide +kernel
theorem dX12_init_575 : decode cX12_init 575 = .ok (.iastore, 1) := by decide +kernel
theorem dX12_init_576 : decode cX12_init 576 = .ok (.dup, 1) := by decide +kernel
theorem dX12_init_577 : decode cX12_init 577 = .ok (.bipush 7, 2) := by decide +kernel
theorem dX12_init_579 : decode cX12_init 579 = .ok (.bipush 102, 2) := by decide +kernel
theorem dX12_init_581 : decode cX12_init 581 = .ok (.iastore, 1) := by decide +kernel
theorem dX12_init_582 : decode cX12_init 582 = .ok (.dup, 1) := by decide +kernel
theorem dX12_init_583 : decode cX12_init 583 = .ok (.bipush 8, 2) := by decide +kernel
theorem dX12_init_585 : decode cX12_init 585 = .ok (.bipush 32, 2) := by decide +kernel
theorem dX12_init_587 : decode cX12_init 587 = .ok (.iastore, 1) := by decide +kernel
theorem dX12_init_588 : decode cX12_init 588 = .ok (.dup, 1) := by decide +kernel
theorem dX12_init_589 : decode cX12_init 589 = .ok (.bipush 9, 2) := by decide +kernel
theorem dX12_init_591 : decode cX12_init 591 = .ok (.iconst 0, 1) := by decide +kernel
theorem dX12_init_592 : decode cX12_init 592 = .ok (.iastore, 1) := by decide +kernel
theorem dX12_init_593 : decode cX12_init 593 = .ok (.dup, 1) := by decide +kernel
theorem dX12_init_594 : decode cX12_init 594 = .ok (.bipush 10, 2) := by decide +kernel
theorem dX12_init_596 : decode cX12_init 596 = .ok (.bipush 114, 2) := by decide +kernel
theorem dX12_init_598 : decode cX12_init 598 = .ok (.iastore, 1) := by decide +kernel
theorem dX12_init_599 : decode cX12_init 599 = .ok (.dup, 1) := by decide +kernel
theorem dX12_init_600 : decode cX12_init 600 = .ok (.bipush 11, 2) := by decide +kernel
theorem dX12_init_602 : decode cX12_init 602 = .ok (.bipush 97, 2) := by decide +kernel
theorem dX12_init_604 : decode cX12_init 604 = .ok (.iastore, 1) := by decide +kernel
theorem dX12_init_605 : decode cX12_init 605 = .ok (.dup, 1) := by decide +kernel
theorem dX12_init_606 : decode cX12_init 606 = .ok (.bipush 12, 2) := by decide +kernel
theorem dX12_init_608 : decode cX12_init 608 = .ok (.bipush 116, 2) := by decide +kernel
theorem dX12_init_610 : decode cX12_init 610 = .ok (.iastore, 1) := by decide +kernel
theorem dX12_init_611 : decode cX12_init 611 = .ok (.dup, 1) := by decide +kernel
theorem dX12_init_612 : decode cX12_init 612 = .ok (.bipush 13, 2) := by decide +kernel
theorem dX12_init_614 : decode cX12_init 614 = .ok (.bipush 101, 2) := by decide +kernel
theorem dX12_init_616 : decode cX12_init 616 = .ok (.iastore, 1) := by decide +kernel
theorem dX12_init_617 : decode cX12_init 617 = .ok (.dup, 1) := by decide +kernel
theorem dX12_init_618 : decode cX12_init 618 = .ok (.bipush 14, 2) := by decide +kernel
theorem dX12_init_620 : decode cX12_init 620 = .ok (.bipush 32, 2) := by decide +kernel
theorem dX12_init_622 : decode cX12_init 622 = .ok (.iastore, 1) := by decide +kernel
theorem dX12_init_623 : decode cX12_init 623 = .ok (.dup, 1) := by decide +kernel
theorem dX12_init_624 : decode cX12_init 624 = .ok (.bipush 15, 2) := by decide +kernel
theorem dX12_init_626 : decode cX12_init 626 = .ok (.iconst 0, 1) := by decide +kernel
theorem dX12_init_627 : decode cX12_init 627 = .ok (.iastore, 1) := by decide +kernel
theorem dX12_init_628 : decode cX12_init 628 = .ok (.dup, 1) := by decide +kernel
theorem dX12_init_629 : decode cX12_init 629 = .ok (.bipush 16, 2) := by decide +kernel
theorem dX12_init_631 : decode cX12_init 631 = .ok (.bipush 32, 2) := by decide +kernel
theorem dX12_init_633 : decode cX12_init 633 = .ok (.iastore, 1) := by decide +kernel
theorem dX12_init_634 : decode cX12_init 634 = .ok (.dup, 1) := by decide +kernel
theorem dX12_init_635 : decode cX12_init 635 = .ok (.bipush 17, 2) := by decide +kernel
theorem dX12_init_637 : decode cX12_init 637 = .ok (.bipush 112, 2) := by decide +kernel
theorem dX12_init_639 : decode cX12_init 639 = .ok (.iastore, 1) := by decide +kernel
theorem dX12_init_640 : decode cX12_init 640 = .ok (.dup, 1) := by decide +kernel
theorem dX12_init_641 : decode cX12_init 641 = .ok (.bipush 18, 2) := by decide +kernel
theorem dX12_init_643 : decode cX12_init 643 = .ok (.bipush 101, 2) := by decide +kernel
theorem dX12_init_645 : decode cX12_init 645 = .ok (.iastore, 1) := by decide +kernel
theorem dX12_init_646 : decode cX12_init 646 = .ok (.dup, 1) := by decide +kernel
theorem dX12_init_647 : decode cX12_init 647 = .ok (.bipush 19, 2) := by decide +kernel
theorem dX12_init_649 : decode cX12_init 649 = .ok (.bipush 114, 2) := by decide +kernel
theorem dX12_init_651 : decode cX12_init 651 = .ok (.iastore, 1) := by decide +kernel
theorem dX12_init_652 : decode cX12_init 652 = .ok (.dup, 1) := by decide +kernel
theorem dX12_init_653 : decode cX12_init 653 = .ok (.bipush 20, 2) := by decide +kernel
theorem dX12_init_655 : decode cX12_init 655 = .ok (.bipush 32, 2) := by decide +kernel
theorem dX12_init_657 : decode cX12_init 657 = .ok (.iastore, 1) := by decide +kernel
theorem dX12_init_658 : decode cX12_init 658 = .ok (.dup, 1) := by decide +kernel
theorem dX12_init_659 : decode cX12_init 659 = .ok (.bipush 21, 2) := by decide +kernel
theorem dX12_init_661 : decode cX12_init 661 = .ok (.iconst 0, 1) := by decide +kernel
theorem dX12_init_662 : decode cX12_init 662 = .ok (.iastore, 1) := by decide +kernel
theorem dX12_init_663 : decode cX12_init 663 = .ok (.dup, 1) := by decide +kernel
theorem dX12_init_664 : decode cX12_init 664 = .ok (.bipush 22, 2) := by decide +kernel
theorem dX12_init_666 : decode cX12_init 666 = .ok (.bipush 32, 2) := by decide +kernel
theorem dX12_init_668 : decode cX12_init 668 = .ok (.iastore, 1) := by decide +kernel
theorem dX12_init_669 : decode cX12_init 669 = .ok (.dup, 1) := by decide +kernel
theorem dX12_init_670 : decode cX12_init 670 = .ok (.bipush 23, 2) := by decide +kernel
theorem dX12_init_672 : decode cX12_init 672 = .ok (.bipush 98, 2) := by decide +kernel
theorem dX12_init_674 : decode cX12_init 674 = .ok (.iastore, 1) := by decide +kernel
theorem dX12_init_675 : decode cX12_init 675 = .ok (.dup, 1) := by decide +kernel
theorem dX12_init_676 : decode cX12_init 676 = .ok (.bipush 24, 2) := by decide +kernel
theorem dX12_init_678 : decode cX12_init 678 = .ok (.bipush 101, 2) := by decide +kernel
theorem dX12_init_680 : decode cX12_init 680 = .ok (.iastore, 1) := by decide +kernel
theorem dX12_init_681 : decode cX12_init 681 = .ok (.dup, 1) := by decide +kernel
theorem dX12_init_682 : decode cX12_init 682 = .ok (.bipush 25, 2) := by decide +kernel
theorem dX12_init_684 : decode cX12_init 684 = .ok (.bipush 108, 2) := by decide +kernel
theorem dX12_init_686 : decode cX12_init 686 = .ok (.iastore, 1) := by decide +kernel
theorem dX12_init_687 : decode cX12_init 687 = .ok (.dup, 1) := by decide +kernel
theorem dX12_init_688 : decode cX12_init 688 = .ok (.bipush 26, 2) := by decide +kernel
theorem dX12_init_690 : decode cX12_init 690 = .ok (.bipush 111, 2) := by decide +kernel
theorem dX12_init_692 : decode cX12_init 692 = .ok (.iastore, 1) := by decide +kernel
theorem dX12_init_693 : decode cX12_init 693 = .ok (.dup, 1) := by decide +kernel
theorem dX12_init_694 : decode cX12_init 694 = .ok (.bipush 27, 2) := by decide +kernel
theorem dX12_init_696 : decode cX12_init 696 = .ok (.bipush 119, 2) := by decide +kernel
theorem dX12_init_698 : decode cX12_init 698 = .ok (.iastore, 1) := by decide +kernel
theorem dX12_init_699 : decode cX12_init 699 = .ok (.dup, 1) := by decide +kernel
theorem dX12_init_700 : decode cX12_init 700 = .ok (.bipush 28, 2) := by decide +kernel
theorem dX12_init_702 : decode cX12_init 702 = .ok (.bipush 32, 2) := by decide +kernel
theorem dX12_init_704 : decode cX12_init 704 = .ok (.iastore, 1) := by decide +kernel
theorem dX12_init_705 : decode cX12_init 705 = .ok (.dup, 1) := by decide +kernel
theorem dX12_init_706 : decode cX12_init 706 = .ok (.bipush 29, 2) := by decide +kernel
theorem dX12_init_708 : decode cX12_init 708 = .ok (.iconst 0, 1) := by decide +kernel
theorem dX12_init_709 : decode cX12_init 709 = .ok (.iastore, 1) := by decide +kernel
theorem dX12_init_710 : decode cX12_init 710 = .ok (.dup, 1) := by decide +kernel
theorem dX12_init_711 : decode cX12_init 711 = .ok (.bipush 30, 2) := by decide +kernel
theorem dX12_init_713 : decode cX12_init 713 = .ok (.bipush 32, 2) := by decide +kernel
theorem dX12_init_715 : decode cX12_init 715 = .ok (.iastore, 1) := by decide +kernel
theorem dX12_init_716 : decode cX12_init 716 = .ok (.dup, 1) := by decide +kernel
theorem dX12_init_717 : decode cX12_init 717 = .ok (.bipush 31, 2) := by decide +kernel
theorem dX12_init_719 : decode cX12_init 719 = .ok (.bipush 111, 2) := by decide +kernel
theorem dX12_init_721 : decode cX12_init 721 = .ok (.iastore, 1) := by decide +kernel
theorem dX12_init_722 : decode cX12_init 722 = .ok (.dup, 1) := by decide +kernel
theorem dX12_init_723 : decode cX12_init 723 = .ok (.bipush 32, 2) := by decide +kernel
theorem dX12_init_725 : decode cX12_init 725 = .ok (.bipush 102, 2) := by decide +kernel
theorem dX12_init_727 : decode cX12_init 727 = .ok (.iastore, 1) := by decide +kernel
theorem dX12_init_728 : decode cX12_init 728 = .ok (.dup, 1) := by decide +kernel
theorem dX12_init_729 : decode cX12_init 729 = .ok (.bipush 33, 2) := by decide +kernel
theorem dX12_init_731 : decode cX12_init 731 = .ok (.bipush 32, 2) := by decide +kernel
theorem dX12_init_733 : decode cX12_init 733 = .ok (.iastore, 1) := by decide +kernel
theorem dX12_init_734 : decode cX12_init 734 = .ok (.dup, 1) := by decide +kernel
theorem dX12_init_735 : decode cX12_init 735 = .ok (.bipush 34, 2) := by decide +kernel
theorem dX12_init_737 : decode cX12_init 737 = .ok (.bipush 115, 2) := by decide +kernel
theorem dX12_init_739 : decode cX12_init 739 = .ok (.iastore, 1) := by decide +kernel
theorem dX12_init_740 : decode cX12_init 740 = .ok (.dup, 1) := by decide +kernel
theorem dX12_init_741 : decode cX12_init 741 = .ok (.bipush 35, 2) := by decide +kernel
theorem dX12_init_743 : decode cX12_init 743 = .ok (.bipush 117, 2) := by decide +kernel
theorem dX12_init_745 : decode cX12_init 745 = .ok (.iastore, 1) := by decide +kernel
theorem dX12_init_746 : decode cX12_init 746 = .ok (.dup, 1) := by decide +kernel
theorem dX12_init_747 : decode cX12_init 747 = .ok (.bipush 36, 2) := by decide +kernel
theorem dX12_init_749 : decode cX12_init 749 = .ok (.bipush 109, 2) := by decide +kernel
theorem dX12_init_751 : decode cX12_init 751 = .ok (.iastore, 1) := by decide +kernel
theorem dX12_init_752 : decode cX12_init 752 = .ok (.dup, 1) := by decide +kernel
theorem dX12_init_753 : decode cX12_init 753 = .ok (.bipush 37, 2) := by decide +kernel
theorem dX12_init_755 : decode cX12_init 755 = .ok (.bipush 32, 2) := by decide +kernel
theorem dX12_init_757 : decode cX12_init 757 = .ok (.iastore, 1) := by decide +kernel
theorem dX12_init_758 : decode cX12_init 758 = .ok (.dup, 1) := by decide +kernel
theorem dX12_init_759 : decode cX12_init 759 = .ok (.bipush 38, 2) := by decide +kernel
theorem dX12_init_761 : decode cX12_init 761 = .ok (.iconst 0, 1) := by decide +kernel
theorem dX12_init_762 : decode cX12_init 762 = .ok (.iastore, 1) := by decide +kernel
theorem dX12_init_763 : decode cX12_init 763 = .ok (.dup, 1) := by decide +kernel
theorem dX12_init_764 : decode cX12_init 764 = .ok (.bipush 39, 2) := by decide +kernel
theorem dX12_init_766 : decode cX12_init 766 = .ok (.bipush 32, 2) := by decide +kernel
theorem dX12_init_768 : decode cX12_init 768 = .ok (.iastore, 1) := by decide +kernel
theorem dX12_init_769 : decode cX12_init 769 = .ok (.dup, 1) := by decide +kernel
theorem dX12_init_770 : decode cX12_init 770 = .ok (.bipush 40, 2) := by decide +kernel
theorem dX12_init_772 : decode cX12_init 772 = .ok (.bipush 116, 2) := by decide +kernel
theorem dX12_init_774 : decode cX12_init 774 = .ok (.iastore, 1) := by decide +kernel
theorem dX12_init_775 : decode cX12_init 775 = .ok (.dup, 1) := by decide +kernel
theorem dX12_init_776 : decode cX12_init 776 = .ok (.bipush 41, 2) := by decide +kernel
theorem dX12_init_778 : decode cX12_init 778 = .ok (.bipush 111, 2) := by decide +kernel
theorem dX12_init_780 : decode cX12_init 780 = .ok (.iastore, 1) := by decide +kernel
theorem dX12_init_781 : decode cX12_init 781 = .ok (.dup, 1) := by decide +kernel
theorem dX12_init_782 : decode cX12_init 782 = .ok (.bipush 42, 2) := by decide +kernel
theorem dX12_init_784 : decode cX12_init 784 = .ok (.bipush 32, 2) := by decide +kernel
theorem dX12_init_786 : decode cX12_init 786 = .ok (.iastore, 1) := by decide +kernel
theorem dX12_init_787 : decode cX12_init 787 = .ok (.dup, 1) := by decide +kernel
theorem dX12_init_788 : decode cX12_init 788 = .ok (.bipush 43, 2) := by decide +kernel
theorem dX12_init_790 : decode cX12_init 790 = .ok (.iconst 0, 1) := by decide +kernel
theorem dX12_init_791 : decode cX12_init 791 = .ok (.iastore, 1) := by decide +kernel
theorem dX12_init_792 : decode cX12_init 792 = .ok (.dup, 1) := by decide +kernel
theorem dX12_init_793 : decode cX12_init 793 = .ok (.bipush 44, 2) := by decide +kernel
theorem dX12_init_795 : decode cX12_init 795 = .ok (.bipush 32, 2) := by decide +kernel
theorem dX12_init_797 : decode cX12_init 797 = .ok (.iastore, 1) := by decide +kernel
theorem dX12_init_798 : decode cX12_init 798 = .ok (.dup, 1) := by decide +kernel
theorem dX12_init_799 : decode cX12_init 799 = .ok (.bipush 45, 2) := by decide +kernel
theorem dX12_init_801 : decode cX12_init 801 = .ok (.bipush 109, 2) := by decide +kernel
theorem dX12_init_803 : decode cX12_init 803 = .ok (.iastore, 1) := by decide +kernel
theorem dX12_init_804 : decode cX12_init 804 = .ok (.dup, 1) := by decide +kernel
theorem dX12_init_805 : decode cX12_init 805 = .ok (.bipush 46, 2) := by decide +kernel
theorem dX12_init_807 : decode cX12_init 807 = .ok (.bipush 97, 2) := by decide +kernel
theorem dX12_init_809 : decode cX12_init 809 = .ok (.iastore, 1) := by decide +kernel
theorem dX12_init_810 : decode cX12_init 810 = .ok (.dup, 1) := by decide +kernel
theorem dX12_init_811 : decode cX12_init 811 = .ok (.bipush 47, 2) := by decide +kernel
theorem dX12_init_813 : decode cX12_init 813 = .ok (.bipush 120, 2) := by decide +kernel
theorem dX12_init_815 : decode cX12_init 815 = .ok (.iastore, 1) := by decide +kernel
theorem dX12_init_816 : decode cX12_init 816 = .ok (.dup, 1) := by decide +kernel
theorem dX12_init_817 : decode cX12_init 817 = .ok (.bipush 48, 2) := by decide +kernel
theorem dX12_init_819 : decode cX12_init 819 = .ok (.bipush 32, 2) := by decide +kernel
theorem dX12_init_821 : decode cX12_init 821 = .ok (.iastore, 1) := by decide +kernel
theorem dX12_init_822 : decode cX12_init 822 = .ok (.dup, 1) := by decide +kernel
theorem dX12_init_823 : decode cX12_init 823 = .ok (.bipush 49, 2) := by decide +kernel
theorem dX12_init_825 : decode cX12_init 825 = .ok (.iconst 0, 1) := by decide +kernel
theorem dX12_init_826 : decode cX12_init 826 = .ok (.iastore, 1) := by decide +kernel
theorem dX12_init_827 : decode cX12_init 827 = .ok (.dup, 1) := by decide +kernel
theorem dX12_init_828 : decode cX12_init 828 = .ok (.bipush 50, 2) := by decide +kernel
theorem dX12_init_830 : decode cX12_init 830 = .ok (.bipush 115, 2) := by decide +kernel
theorem dX12_init_832 : decode cX12_init 832 = .ok (.iastore, 1) := by decide +kernel
theorem dX12_init_833 : decode cX12_init 833 = .ok (.dup, 1) := by decide +kernel
theorem dX12_init_834 : decode cX12_init 834 = .ok (.bipush 51, 2) := by decide +kernel
theorem dX12_init_836 : decode cX12_init 836 = .ok (.bipush 117, 2) := by decide +kernel
theorem dX12_init_838 : decode cX12_init 838 = .ok (.iastore, 1) := by decide +kernel
theorem dX12_init_839 : decode cX12_init 839 = .ok (.dup, 1) := by decide +kernel
theorem dX12_init_840 : decode cX12_init 840 = .ok (.bipush 52, 2) := by decide +kernel
theorem dX12_init_842 : decode cX12_init 842 = .ok (.bipush 109, 2) := by decide +kernel
theorem dX12_init_844 : decode cX12_init 844 = .ok (.iastore, 1) := by decide +kernel
theorem dX12_init_845 : decode cX12_init 845 = .ok (.dup, 1) := by decide +kernel
theorem dX12_init_846 : decode cX12_init 846 = .ok (.bipush 53, 2) := by decide +kernel
theorem dX12_init_848 : decode cX12_init 848 = .ok (.bipush 32, 2) := by decide +kernel
theorem dX12_init_850 : decode cX12_init 850 = .ok (.iastore, 1) := by decide +kernel
theorem dX12_init_851 : decode cX12_init 851 = .ok (.dup, 1) := by decide +kernel
theorem dX12_init_852 : decode cX12_init 852 = .ok (.bipush 54, 2) := by decide +kernel
theorem dX12_init_854 : decode cX12_init 854 = .ok (.iconst 0, 1) := by decide +kernel
theorem dX12_init_855 : decode cX12_init 855 = .ok (.iastore, 1) := by decide +kernel
theorem dX12_init_856 : decode cX12_init 856 = .ok (.dup, 1) := by decide +kernel
theorem dX12_init_857 : decode cX12_init 857 = .ok (.bipush 55, 2) := by decide +kernel
theorem dX12_init_859 : decode cX12_init 859 = .ok (.bipush 100, 2) := by decide +kernel
theorem dX12_init_861 : decode cX12_init 861 = .ok (.iastore, 1) := by decide +kernel
theorem dX12_init_862 : decode cX12_init 862 = .ok (.dup, 1) := by decide +kernel
theorem dX12_init_863 : decode cX12_init 863 = .ok (.bipush 56, 2) := by decide +kernel
theorem dX12_init_865 : decode cX12_init 865 = .ok (.bipush 114, 2) := by decide +kernel
theorem dX12_init_867 : decode cX12_init 867 = .ok (.iastore, 1) := by decide +kernel
theorem dX12_init_868 : decode cX12_init 868 = .ok (.dup, 1) := by decide +kernel
theorem dX12_init_869 : decode cX12_init 869 = .ok (.bipush 57, 2) := by decide +kernel
theorem dX12_init_871 : decode cX12_init 871 = .ok (.bipush 121, 2) := by decide +kernel
theorem dX12_init_873 : decode cX12_init 873 = .ok (.iastore, 1) := by decide +kernel
theorem dX12_init_874 : decode cX12_init 874 = .ok (.dup, 1) := by decide +kernel
theorem dX12_init_875 : decode cX12_init 875 = .ok (.bipush 58, 2) := by decide +kernel
theorem dX12_init_877 : decode cX12_init 877 = .ok (.bipush 32, 2) := by decide +kernel
theorem dX12_init_879 : decode cX12_init 879 = .ok (.iastore, 1) := by decide +kernel
theorem dX12_init_880 : decode cX12_init 880 = .ok (.dup, 1) := by decide +kernel
theorem dX12_init_881 : decode cX12_init 881 = .ok (.bipush 59, 2) := by decide +kernel
theorem dX12_init_883 : decode cX12_init 883 = .ok (.iconst 0, 1) := by decide +kernel
theorem dX12_init_884 : decode cX12_init 884 = .ok (.iastore, 1) := by decide +kernel
theorem dX12_init_885 : decode cX12_init 885 = .ok (.dup, 1) := by decide +kernel
theorem dX12_init_886 : decode cX12_init 886 = .ok (.bipush 60, 2) := by decide +kernel
theorem dX12_init_888 : decode cX12_init 888 = .ok (.bipush 103, 2) := by decide +kernel
theorem dX12_init_890 : decode cX12_init 890 = .ok (.iastore, 1) := by decide +kernel
theorem dX12_init_891 : decode cX12_init 891 = .ok (.dup, 1) := by decide +kernel
theorem dX12_init_892 : decode cX12_init 892 = .ok (.bipush 61, 2) := by decide +kernel
theorem dX12_init_894 : decode cX12_init 894 = .ok (.bipush 114, 2) := by decide +kernel
theorem dX12_init_896 : decode cX12_init 896 = .ok (.iastore, 1) := by decide +kernel
theorem dX12_init_897 : decode cX12_init 897 = .ok (.dup, 1) := by decide +kernel
theorem dX12_init_898 : decode cX12_init 898 = .ok (.bipush 62, 2) := by decide +kernel
theorem dX12_init_900 : decode cX12_init 900 = .ok (.bipush 101, 2) := by decide +kernel
theorem dX12_init_902 : decode cX12_init 902 = .ok (.iastore, 1) := by decide +kernel
theorem dX12_init_903 : decode cX12_init 903 = .ok (.dup, 1) := by decide +kernel
theorem dX12_init_904 : decode cX12_init 904 = .ok (.bipush 63, 2) := by decide +kernel
theorem dX12_init_906 : decode cX12_init 906 = .ok (.bipush 101, 2) := by decide +kernel
theorem dX12_init_908 : decode cX12_init 908 = .ok (.iastore, 1) := by decide +kernel
theorem dX12_init_909 : decode cX12_init 909 = .ok (.dup, 1) := by decide +kernel
theorem dX12_init_910 : decode cX12_init 910 = .ok (.bipush 64, 2) := by decide +kernel
theorem dX12_init_912 : decode cX12_init 912 = .ok (.bipush 110, 2) := by decide +kernel
theorem dX12_init_914 : decode cX12_init 914 = .ok (.iastore, 1) := by decide +kernel
theorem dX12_init_915 : decode cX12_init 915 = .ok (.dup, 1) := by decide +kernel
theorem dX12_init_916 : decode cX12_init 916 = .ok (.bipush 65, 2) := by decide +kernel
theorem dX12_init_918 : decode cX12_init 918 = .ok (.bipush 32, 2) := by decide +kernel
theorem dX12_init_920 : decode cX12_init 920 = .ok (.iastore, 1) := by decide +kernel
theorem dX12_init_921 : decode cX12_init 921 = .ok (.dup, 1) := by decide +kernel
theorem dX12_init_922 : decode cX12_init 922 = .ok (.bipush 66, 2) := by decide +kernel
theorem dX12_init_924 : decode cX12_init 924 = .ok (.iconst 0, 1) := by decide +kernel
theorem dX12_init_925 : decode cX12_init 925 = .ok (.iastore, 1) := by decide +kernel
theorem dX12_init_926 : decode cX12_init 926 = .ok (.dup, 1) := by decide +kernel
theorem dX12_init_927 : decode cX12_init 927 = .ok (.bipush 67, 2) := by decide +kernel
theorem dX12_init_929 : decode cX12_init 929 = .ok (.bipush 119, 2) := by decide +kernel
theorem dX12_init_931 : decode cX12_init 931 = .ok (.iastore, 1) := by decide +kernel
theorem dX12_init_932 : decode cX12_init 932 = .ok (.dup, 1) := by decide +kernel
theorem dX12_init_933 : decode cX12_init 933 = .ok (.bipush 68, 2) := by decide +kernel
theorem dX12_init_935 : decode cX12_init 935 = .ok (.bipush 101, 2) := by decide +kernel
theorem dX12_init_937 : decode cX12_init 937 = .ok (.iastore, 1) := by decide +kernel
theorem dX12_init_938 : decode cX12_init 938 = .ok (.dup, 1) := by decide +kernel
theorem dX12_init_939 : decode cX12_init 939 = .ok (.bipush 69, 2) := by decide +kernel
theorem dX12_init_941 : decode cX12_init 941 = .ok (.bipush 101, 2) := by decide +kernel
theorem dX12_init_943 : decode cX12_init 943 = .ok (.iastore, 1) := by decide +kernel
theorem dX12_init_944 : decode cX12_init 944 = .ok (.dup, 1) := by decide +kernel
theorem dX12_init_945 : decode cX12_init 945 = .ok (.bipush 70, 2) := by decide +kernel
theorem dX12_init_947 : decode cX12_init 947 = .ok (.bipush 107, 2) := by decide +kernel
theorem dX12_init_949 : decode cX12_init 949 = .ok (.iastore, 1) := by decide +kernel
theorem dX12_init_950 : decode cX12_init 950 = .ok (.dup, 1) := by decide +kernel
theorem dX12_init_951 : decode cX12_init 951 = .ok (.bipush 71, 2) := by decide +kernel
theorem dX12_init_953 : decode cX12_init 953 = .ok (.bipush 32, 2) := by decide +kernel
theorem dX12_init_955 : decode cX12_init 955 = .ok (.iastore, 1) := by decide +kernel
theorem dX12_init_956 : decode cX12_init 956 = .ok (.dup, 1) := by decide +kernel
theorem dX12_init_957 : decode cX12_init 957 = .ok (.bipush 72, 2) := by decide +kernel
theorem dX12_init_959 : decode cX12_init 959 = .ok (.iconst 0, 1) := by decide +kernel
theorem dX12_init_960 : decode cX12_init 960 = .ok (.iastore, 1) := by decide +kernel
theorem dX12_init_961 : decode cX12_init 961 = .ok (.dup, 1) := by decide +kernel
theorem dX12_init_962 : decode cX12_init 962 = .ok (.bipush 73, 2) := by decide +kernel
theorem dX12_init_964 : decode cX12_init 964 = .ok (.bipush 32, 2) := by decide +kernel
theorem dX12_init_966 : decode cX12_init 966 = .ok (.iastore, 1) := by decide +kernel
theorem dX12_init_967 : decode cX12_init 967 = .ok (.dup, 1) := by decide +kernel
theorem dX12_init_968 : decode cX12_init 968 = .ok (.bipush 74, 2) := by decide +kernel
theorem dX12_init_970 : decode cX12_init 970 = .ok (.bipush 97, 2) := by decide +kernel
theorem dX12_init_972 : decode cX12_init 972 = .ok (.iastore, 1) := by decide +kernel
theorem dX12_init_973 : decode cX12_init 973 = .ok (.dup, 1) := by decide +kernel
theorem dX12_init_974 : decode cX12_init 974 = .ok (.bipush 75, 2) := by decide +kernel
theorem dX12_init_976 : decode cX12_init 976 = .ok (.bipush 110, 2) := by decide +kernel
theorem dX12_init_978 : decode cX12_init 978 = .ok (.iastore, 1) := by decide +kernel
theorem dX12_init_979 : decode cX12_init 979 = .ok (.dup, 1) := by decide +kernel
theorem dX12_init_980 : decode cX12_init 980 = .ok (.bipush 76, 2) := by decide +kernel
theorem dX12_init_982 : decode cX12_init 982 = .ok (.bipush 100, 2) := by decide +kernel
theorem dX12_init_984 : decode cX12_init 984 = .ok (.iastore, 1) := by decide +kernel
theorem dX12_init_985 : decode cX12_init 985 = .ok (.dup, 1) := by decide +kernel
theorem dX12_init_986 : decode cX12_init 986 = .ok (.bipush 77, 2) := by decide +kernel
theorem dX12_init_988 : decode cX12_init 988 = .ok (.bipush 32, 2) := by decide +kernel
theorem dX12_init_990 : decode cX12_init 990 = .ok (.iastore, 1) := by decide +kernel
theorem dX12_init_991 : decode cX12_init 991 = .ok (.dup, 1) := by decide +kernel
theorem dX12_init_992 : decode cX12_init 992 = .ok (.bipush 78, 2) := by decide +kernel
theorem dX12_init_994 : decode cX12_init 994 = .ok (.iconst 0, 1) := by decide +kernel
theorem dX12_init_995 : decode cX12_init 995 = .ok (.iastore, 1) := by decide +kernel
theorem dX12_init_996 : decode cX12_init 996 = .ok (.putfield 185, 3) := by decide +kernel
theorem dX12_init_999 : decode cX12_init 999 = .ok (.aload_n 0, 1) := by decide +kernel
theorem dX12_init_1000 : decode cX12_init 1000 = .ok (.bipush 12, 2) := by decide +kernel
theorem dX12_init_1002 : decode cX12_init 1002 = .ok (.putfield 188, 3) := by decide +kernel
theorem dX12_init_1005 : decode cX12_init 1005 = .ok (.aload_n 0, 1) := by decide +kernel
theorem dX12_init_1006 : decode cX12_init 1006 = .ok (.bipush 16, 2) := by decide +kernel
theorem dX12_init_1008 : decode cX12_init 1008 = .ok (.newarray .int, 2) := by decide +kernel
theorem dX12_init_1010 : decode cX12_init 1010 = .ok (.putfield 191, 3) := by decide +kernel
theorem dX12_init_1013 : decode cX12_init 1013 = .ok (.aload_n 0, 1) := by decide +kernel
theorem dX12_init_1014 : decode cX12_init 1014 = .ok (.bipush 16, 2) := by decide +kernel
theorem dX12_init_1016 : decode cX12_init 1016 = .ok (.newarray .int, 2) := by decide +kernel
theorem dX12_init_1018 : decode cX12_init 1018 = .ok (.putfield 194, 3) := by decide +kernel
theorem dX12_init_1021 : decode cX12_init 1021 = .ok (.aload_n 0, 1) := by decide +kernel
theorem dX12_init_1022 : decode cX12_init 1022 = .ok (.bipush 40, 2) := by decide +kernel
theorem dX12_init_1024 : decode cX12_init 1024 = .ok (.newarray .int, 2) := by decide +kernel
theorem dX12_init_1026 : decode cX12_init 1026 = .ok (.putfield 197, 3) := by decide +kernel
theorem dX12_init_1029 : decode cX12_init 1029 = .ok (.aload_n 0, 1) := by decide +kernel
theorem dX12_init_1030 : decode cX12_init 1030 = .ok (.iconst 0, 1) := by decide +kernel
theorem dX12_init_1031 : decode cX12_init 1031 = .ok (.invokevirtual 200, 3) := by decide +kernel
theorem dX12_init_1034 : decode cX12_init 1034 = .ok (.return_, 1) := by decide +kernel
abbrev M_X12_init : MI := (RX12, cX12_init, 1, none, ({ frames := 1, cells := 60, slots := 9389, locals := 22 } : Room), 60, 9389, true)
def f_X12_init (h0 : AH) (N : Nat) (p0 : Nat) : Option AH := if kd h0 p0 = 13 + 1 then (gl h0 [p0, p0]).bind fun _ => (xna h0 (p0 + 1) 0 8).bind fun h1 => (xpr h1 p0 13 1 (p0 + 1)).bind fun h2 => (gl h2 [p0, p0]).bind fun _ => (xna h2 (p0 + 2) 0 8).bind fun h3 => (xpr h3 p0 13 2 (p0 + 2)).bind fun h4 => (gl h4 [p0, p0]).bind fun _ => (xna h4 (p0 + 3) 0 8).bind fun h5 => (xpr h5 p0 13 3 (p0 + 3)).bind fun h6 => (gl h6 [p0, p0]).bind fun _ => (xna h6 (p0 + 4) 0 8).bind fun h7 => (xpr h7 p0 13 4 (p0 + 4)).bind fun h8 => (gl h8 [p0, p0]).bind fun _ => (xna h8 (p0 + 5) 0 4).bind fun h9 => (xis h9 (p0 + 5) 0 40).bind fun h10 => (xis h10 (p0 + 5) 1 500).bind fun h11 => (xis h11 (p0 + 5) 2 20).bind fun h12 => (xis h12 (p0 + 5) 3 0).bind fun h13 => (xpr h13 p0 13 5 (p0 + 5)).bind fun h14 => (gl h14 [p0, p0]).bind fun _ => (xna h14 (p0 + 6) 0 4).bind fun h15 => (xis h15 (p0 + 6) 0 198).bind fun h16 => (xis h16 (p0 + 6) 1 9999).bind fun h17 => (xis h17 (p0 + 6) 2 300).bind fun h18 => (xis h18 (p0 + 6) 3 100).bind fun h19 => (xpr h19 p0 13 6 (p0 + 6)).bind fun h20 => (gl h20 [p0, p0]).bind fun _ => (xna h20 (p0 + 8) 1 700).bind fun h21 => (xpr h21 p0 13 8 (p0 + 8)).bind fun h22 => (gl h22 [p0, p0]).bind fun _ => (xna h22 (p0 + 9) 0 700).bind fun h23 => (xpr h23 p0 13 9 (p0 + 9)).bind fun h24 => (gl h24 [p0, p0]).bind fun _ => (xna h24 (p0 + 10) 0 700).bind fun h25 => (xpr h25 p0 13 10 (p0 + 10)).bind fun h26 => (gl h26 [p0, p0]).bind fun _ => (xna h26 (p0 + 11) 0 3072).bind fun h27 => (xpr h27 p0 13 11 (p0 + 11)).bind fun h28 => (gl h28 [p0, p0]).bind fun _ => (xna h28 (p0 + 12) 0 1536).bind fun h29 => (xpr h29 p0 13 12 (p0 + 12)).bind fun h30 => (gl h30 [p0, p0]).bind fun _ => (xna h30 (p0 + 14) 1 8).bind fun h31 => (xpr h31 p0 13 14 (p0 + 14)).bind fun h32 => (gl h32 [p0, p0]).bind fun _ => (xna h32 (p0 + 15) 0 8).bind fun h33 => (xpr h33 p0 13 15 (p0 + 15)).bind fun h34 => (gl h34 [p0, p0]).bind fun _ => (xna h34 (p0 + 16) 0 8).bind fun h35 => (xpr h35 p0 13 16 (p0 + 16)).bind fun h36 => (gl h36 [p0, p0]).bind fun _ => (xna h36 (p0 + 17) 0 8).bind fun h37 => (xpr h37 p0 13 17 (p0 + 17)).bind fun h38 => (gl h38 [p0, p0]).bind fun _ => (xna h38 (p0 + 18) 0 8).bind fun h39 => (xpr h39 p0 13 18 (p0 + 18)).bind fun h40 => (gl h40 [p0, p0]).bind fun _ => (xna h40 (p0 + 19) 0 8).bind fun h41 => (xpr h41 p0 13 19 (p0 + 19)).bind fun h42 => (gl h42 [p0, p0]).bind fun _ => (xna h42 (p0 + 20) 0 32).bind fun h43 => (xpr h43 p0 13 20 (p0 + 20)).bind fun h44 => (gl h44 [p0, p0]).bind fun _ => (xna h44 (p0 + 21) 0 32).bind fun h45 => (xpr h45 p0 13 21 (p0 + 21)).bind fun h46 => (gl h46 [p0, p0]).bind fun _ => (xna h46 (p0 + 22) 0 32).bind fun h47 => (xpr h47 p0 13 22 (p0 + 22)).bind fun h48 => (gl h48 [p0, p0]).bind fun _ => (xna h48 (p0 + 23) 0 32).bind fun h49 => (xpr h49 p0 13 23 (p0 + 23)).bind fun h50 => (gl h50 [p0, p0]).bind fun _ => (xna h50 (p0 + 24) 1 32).bind fun h51 => (xpr h51 p0 13 24 (p0 + 24)).bind fun h52 => (gl h52 [p0, p0]).bind fun _ => (xna h52 (p0 + 25) 0 4).bind fun h53 => (xis h53 (p0 + 25) 0 100).bind fun h54 => (xis h54 (p0 + 25) 1 80).bind fun h55 => (xis h55 (p0 + 25) 2 120).bind fun h56 => (xis h56 (p0 + 25) 3 60).bind fun h57 => (xpr h57 p0 13 25 (p0 + 25)).bind fun h58 => (gl h58 [p0, p0]).bind fun _ => (xna h58 (p0 + 27) 0 24).bind fun h59 => (xpr h59 p0 13 27 (p0 + 27)).bind fun h60 => (gl h60 [p0, p0]).bind fun _ => (xna h60 (p0 + 28) 0 24).bind fun h61 => (xpr h61 p0 13 28 (p0 + 28)).bind fun h62 => (gl h62 [p0, p0]).bind fun _ => (xna h62 (p0 + 29) 0 24).bind fun h63 => (xpr h63 p0 13 29 (p0 + 29)).bind fun h64 => (gl h64 [p0, p0]).bind fun _ => (xna h64 (p0 + 30) 0 24).bind fun h65 => (xpr h65 p0 13 30 (p0 + 30)).bind fun h66 => (gl h66 [p0, p0]).bind fun _ => (xna h66 (p0 + 31) 0 24).bind fun h67 => (xpr h67 p0 13 31 (p0 + 31)).bind fun h68 => (gl h68 [p0, p0]).bind fun _ => (xna h68 (p0 + 32) 0 24).bind fun h69 => (xpr h69 p0 13 32 (p0 + 32)).bind fun h70 => (gl h70 [p0, p0]).bind fun _ => (xna h70 (p0 + 33) 0 24).bind fun h71 => (xpr h71 p0 13 33 (p0 + 33)).bind fun h72 => (gl h72 [p0, p0]).bind fun _ => (xna h72 (p0 + 34) 0 384).bind fun h73 => (xpr h73 p0 13 34 (p0 + 34)).bind fun h74 => (gl h74 [p0, p0]).bind fun _ => (xna h74 (p0 + 35) 0 4).bind fun h75 => (xpr h75 p0 13 35 (p0 + 35)).bind fun h76 => (gl h76 [p0, p0]).bind fun _ => (xna h76 (p0 + 37) 0 60).bind fun h77 => (xpr h77 p0 13 37 (p0 + 37)).bind fun h78 => (gl h78 [p0, p0]).bind fun _ => (xna h78 (p0 + 38) 0 60).bind fun h79 => (xpr h79 p0 13 38 (p0 + 38)).bind fun h80 => (gl h80 [p0, p0]).bind fun _ => (xna h80 (p0 + 39) 0 60).bind fun h81 => (xpr h81 p0 13 39 (p0 + 39)).bind fun h82 => (gl h82 [p0, p0]).bind fun _ => (xna h82 (p0 + 40) 0 60).bind fun h83 => (xpr h83 p0 13 40 (p0 + 40)).bind fun h84 => (gl h84 [p0, p0]).bind fun _ => (xna h84 (p0 + 42) 0 80).bind fun h85 => (xpr h85 p0 13 42 (p0 + 42)).bind fun h86 => (gl h86 [p0, p0]).bind fun _ => (xna h86 (p0 + 43) 0 80).bind fun h87 => (xpr h87 p0 13 43 (p0 + 43)).bind fun h88 => (gl h88 [p0, p0]).bind fun _ => (xna h88 (p0 + 44) 0 80).bind fun h89 => (xpr h89 p0 13 44 (p0 + 44)).bind fun h90 => (gl h90 [p0, p0]).bind fun _ => (xna h90 (p0 + 45) 0 80).bind fun h91 => (xpr h91 p0 13 45 (p0 + 45)).bind fun h92 => (gl h92 [p0, p0]).bind fun _ => (xna h92 (p0 + 47) 0 8).bind fun h93 => (xpr h93 p0 13 47 (p0 + 47)).bind fun h94 => (gl h94 [p0, p0]).bind fun _ => (xna h94 (p0 + 48) 0 8).bind fun h95 => (xpr h95 p0 13 48 (p0 + 48)).bind fun h96 => (gl h96 [p0, p0]).bind fun _ => (xna h96 (p0 + 50) 0 200).bind fun h97 => (xpr h97 p0 13 50 (p0 + 50)).bind fun h98 => (gl h98 [p0, p0]).bind fun _ => (xna h98 (p0 + 51) 0 200).bind fun h99 => (xpr h99 p0 13 51 (p0 + 51)).bind fun h100 => (gl h100 [p0, p0]).bind fun _ => (xna h100 (p0 + 52) 0 200).bind fun h101 => (xpr h101 p0 13 52 (p0 + 52)).bind fun h102 => (gl h102 [p0, p0]).bind fun _ => (xna h102 (p0 + 53) 0 200).bind fun h103 => (xpr h103 p0 13 53 (p0 + 53)).bind fun h104 => (gl h104 [p0, p0]).bind fun _ => (xna h104 (p0 + 56) 0 20).bind fun h105 => (xpr h105 p0 13 56 (p0 + 56)).bind fun h106 => (gl h106 [p0, p0]).bind fun _ => (xna h106 (p0 + 57) 0 20).bind fun h107 => (xpr h107 p0 13 57 (p0 + 57)).bind fun h108 => (gl h108 [p0, p0]).bind fun _ => (xna h108 (p0 + 58) 0 20).bind fun h109 => (xpr h109 p0 13 58 (p0 + 58)).bind fun h110 => (gl h110 [p0, p0]).bind fun _ => (xna h110 (p0 + 59) 0 20).bind fun h111 => (xpr h111 p0 13 59 (p0 + 59)).bind fun h112 => (gl h112 [p0, p0]).bind fun _ => (xna h112 (p0 + 60) 0 20).bind fun h113 => (xpr h113 p0 13 60 (p0 + 60)).bind fun h114 => (xpi h114 p0 13 61 1).bind fun h115 => (gl h115 [p0, p0]).bind fun _ => (xna h115 (p0 + 62) 0 100).bind fun h116 => (xpr h116 p0 13 62 (p0 + 62)).bind fun h117 => (gl h117 [p0, p0]).bind fun _ => (xna h117 (p0 + 65) 0 20).bind fun h118 => (xpr h118 p0 13 65 (p0 + 65)).bind fun h119 => (gl h119 [p0, p0]).bind fun _ => (xna h119 (p0 + 66) 0 3).bind fun h120 => (xis h120 (p0 + 66) 0 (-1)).bind fun h121 => (xis h121 (p0 + 66) 1 (-1)).bind fun h122 => (xis h122 (p0 + 66) 2 (-1)).bind fun h123 => (xpr h123 p0 13 66 (p0 + 66)).bind fun h124 => (gl h124 [p0, p0]).bind fun _ => (xna h124 (p0 + 67) 0 3).bind fun h125 => (xpr h125 p0 13 67 (p0 + 67)).bind fun h126 => (gl h126 [p0, p0]).bind fun _ => (xna h126 (p0 + 68) 0 120).bind fun h127 => (xpr h127 p0 13 68 (p0 + 68)).bind fun h128 => (gl h128 [p0, p0]).bind fun _ => (xna h128 (p0 + 71) 0 79).bind fun h129 => (xis h129 (p0 + 71) 0 112).bind fun h130 => (xis h130 (p0 + 71) 1 97).bind fun h131 => (xis h131 (p0 + 71) 2 121).bind fun h132 => (xis h132 (p0 + 71) 3 32).bind fun h133 => (xis h133 (p0 + 71) 4 0).bind fun h134 => (xis h134 (p0 + 71) 5 32).bind fun h135 => (xis h135 (p0 + 71) 6 105).bind fun h136 => (xis h136 (p0 + 71) 7 102).bind fun h137 => (xis h137 (p0 + 71) 8 32).bind fun h138 => (xis h138 (p0 + 71) 9 0).bind fun h139 => (xis h139 (p0 + 71) 10 114).bind fun h140 => (xis h140 (p0 + 71) 11 97).bind fun h141 => (xis h141 (p0 + 71) 12 116).bind fun h142 => (xis h142 (p0 + 71) 13 101).bind fun h143 => (xis h143 (p0 + 71) 14 32).bind fun h144 => (xis h144 (p0 + 71) 15 0).bind fun h145 => (xis h145 (p0 + 71) 16 32).bind fun h146 => (xis h146 (p0 + 71) 17 112).bind fun h147 => (xis h147 (p0 + 71) 18 101).bind fun h148 => (xis h148 (p0 + 71) 19 114).bind fun h149 => (xis h149 (p0 + 71) 20 32).bind fun h150 => (xis h150 (p0 + 71) 21 0).bind fun h151 => (xis h151 (p0 + 71) 22 32).bind fun h152 => (xis h152 (p0 + 71) 23 98).bind fun h153 => (xis h153 (p0 + 71) 24 101).bind fun h154 => (xis h154 (p0 + 71) 25 108).bind fun h155 => (xis h155 (p0 + 71) 26 111).bind fun h156 => (xis h156 (p0 + 71) 27 119).bind fun h157 => (xis h157 (p0 + 71) 28 32).bind fun h158 => (xis h158 (p0 + 71) 29 0).bind fun h159 => (xis h159 (p0 + 71) 30 32).bind fun h160 => (xis h160 (p0 + 71) 31 111).bind fun h161 => (xis h161 (p0 + 71) 32 102).bind fun h162 => (xis h162 (p0 + 71) 33 32).bind fun h163 => (xis h163 (p0 + 71) 34 115).bind fun h164 => (xis h164 (p0 + 71) 35 117).bind fun h165 => (xis h165 (p0 + 71) 36 109).bind fun h166 => (xis h166 (p0 + 71) 37 32).bind fun h167 => (xis h167 (p0 + 71) 38 0).bind fun h168 => (xis h168 (p0 + 71) 39 32).bind fun h169 => (xis h169 (p0 + 71) 40 116).bind fun h170 => (xis h170 (p0 + 71) 41 111).bind fun h171 => (xis h171 (p0 + 71) 42 32).bind fun h172 => (xis h172 (p0 + 71) 43 0).bind fun h173 => (xis h173 (p0 + 71) 44 32).bind fun h174 => (xis h174 (p0 + 71) 45 109).bind fun h175 => (xis h175 (p0 + 71) 46 97).bind fun h176 => (xis h176 (p0 + 71) 47 120).bind fun h177 => (xis h177 (p0 + 71) 48 32).bind fun h178 => (xis h178 (p0 + 71) 49 0).bind fun h179 => (xis h179 (p0 + 71) 50 115).bind fun h180 => (xis h180 (p0 + 71) 51 117).bind fun h181 => (xis h181 (p0 + 71) 52 109).bind fun h182 => (xis h182 (p0 + 71) 53 32).bind fun h183 => (xis h183 (p0 + 71) 54 0).bind fun h184 => (xis h184 (p0 + 71) 55 100).bind fun h185 => (xis h185 (p0 + 71) 56 114).bind fun h186 => (xis h186 (p0 + 71) 57 121).bind fun h187 => (xis h187 (p0 + 71) 58 32).bind fun h188 => (xis h188 (p0 + 71) 59 0).bind fun h189 => (xis h189 (p0 + 71) 60 103).bind fun h190 => (xis h190 (p0 + 71) 61 114).bind fun h191 => (xis h191 (p0 + 71) 62 101).bind fun h192 => (xis h192 (p0 + 71) 63 101).bind fun h193 => (xis h193 (p0 + 71) 64 110).bind fun h194 => (xis h194 (p0 + 71) 65 32).bind fun h195 => (xis h195 (p0 + 71) 66 0).bind fun h196 => (xis h196 (p0 + 71) 67 119).bind fun h197 => (xis h197 (p0 + 71) 68 101).bind fun h198 => (xis h198 (p0 + 71) 69 101).bind fun h199 => (xis h199 (p0 + 71) 70 107).bind fun h200 => (xis h200 (p0 + 71) 71 32).bind fun h201 => (xis h201 (p0 + 71) 72 0).bind fun h202 => (xis h202 (p0 + 71) 73 32).bind fun h203 => (xis h203 (p0 + 71) 74 97).bind fun h204 => (xis h204 (p0 + 71) 75 110).bind fun h205 => (xis h205 (p0 + 71) 76 100).bind fun h206 => (xis h206 (p0 + 71) 77 32).bind fun h207 => (xis h207 (p0 + 71) 78 0).bind fun h208 => (xpr h208 p0 13 71 (p0 + 71)).bind fun h209 => (xpi h209 p0 13 73 12).bind fun h210 => (gl h210 [p0, p0]).bind fun _ => (xna h210 (p0 + 74) 0 16).bind fun h211 => (xpr h211 p0 13 74 (p0 + 74)).bind fun h212 => (gl h212 [p0, p0]).bind fun _ => (xna h212 (p0 + 75) 0 16).bind fun h213 => (xpr h213 p0 13 75 (p0 + 75)).bind fun h214 => (gl h214 [p0, p0]).bind fun _ => (xna h214 (p0 + 76) 0 40).bind fun h215 => (xpr h215 p0 13 76 (p0 + 76)).bind fun h216 => (f_X12_clears h216 N p0 0).bind fun q217 => some q217 else none
theorem g_X12_init {h0 : AH} {N : Nat} {p0 : Nat} {x : AH} (e : f_X12_init h0 N p0 = some x) : kd h0 p0 = 13 + 1 := by
  unfold f_X12_init at e
  by_cases hk : kd h0 p0 = 13 + 1
  · exact hk
  · rw [if_neg hk] at e
    cases e
theorem km_X12_init : KM yX12_init M_X12_init 0 := ⟨in_tb 1190 (by decide +kernel) rfl, in_tb 9 (by decide +kernel) rfl, by decide +kernel, rfl, rfl⟩
section
variable {l : Launch} {g : GG}
end
set_option maxRecDepth 100000 in
set_option maxHeartbeats 4000000 in
theorem c_X12_init (l : Launch) (g : GG) (h0 : AH) (N : Nat) (p0 : Nat) : CN l g yX12_init M_X12_init true [.ref p0] h0 rSv (f_X12_init h0 N p0) := by
  refine CN.of (by decide) rfl (fun hh => by first | rfl | cases hh) (Nat.le_of_ble_eq_true rfl) ?_
  unfold f_X12_init
  refine a_gd (fun hkd => ?_)
  refine a_aload_n dX12_init_0 rfl 0 rfl ?_
  refine a_objI dX12_init_1 w_methodLink_RainCoverModel_3 w_instanceMethod_java_lang_Object__init____V w_code_java_lang_Object__init____V (by decide) (by decide) (Nat.le_of_ble_eq_true rfl) ?_
  refine a_aload_n dX12_init_4 rfl 0 rfl ?_
  refine a_bipush (v := 8) dX12_init_5 (by decide) ?_
  refine a_newa_int (r := (p0 + 1)) [p0, p0] rfl dX12_init_7 w_arrayClass_int (by decide) (by decide) (fun h1 => ?_)
  refine a_widen 1 8 (by decide) (by decide) ?_
  refine a_putrF kc13 1 dX12_init_9 (by decide) rfl w_fieldLink_RainCoverModel_9 (fun _ => ⟨rfl, rfl⟩) rfl rfl rfl (fun h2 => ?_)
  refine a_aload_n dX12_init_12 rfl 0 rfl ?_
  refine a_bipush (v := 8) dX12_init_13 (by decide) ?_
  refine a_newa_int (r := (p0 + 2)) [p0, p0] rfl dX12_init_15 w_arrayClass_int (by decide) (by decide) (fun h3 => ?_)
  refine a_widen 2 16 (by decide) (by decide) ?_
  refine a_putrF kc13 2 dX12_init_17 (by decide) rfl w_fieldLink_RainCoverModel_15 (fun _ => ⟨rfl, rfl⟩) rfl rfl rfl (fun h4 => ?_)
  refine a_aload_n dX12_init_20 rfl 0 rfl ?_
  refine a_bipush (v := 8) dX12_init_21 (by decide) ?_
  refine a_newa_int (r := (p0 + 3)) [p0, p0] rfl dX12_init_23 w_arrayClass_int (by decide) (by decide) (fun h5 => ?_)
  refine a_widen 3 24 (by decide) (by decide) ?_
  refine a_putrF kc13 3 dX12_init_25 (by decide) rfl w_fieldLink_RainCoverModel_18 (fun _ => ⟨rfl, rfl⟩) rfl rfl rfl (fun h6 => ?_)
  refine a_aload_n dX12_init_28 rfl 0 rfl ?_
  refine a_bipush (v := 8) dX12_init_29 (by decide) ?_
  refine a_newa_int (r := (p0 + 4)) [p0, p0] rfl dX12_init_31 w_arrayClass_int (by decide) (by decide) (fun h7 => ?_)
  refine a_widen 4 32 (by decide) (by decide) ?_
  refine a_putrF kc13 4 dX12_init_33 (by decide) rfl w_fieldLink_RainCoverModel_21 (fun _ => ⟨rfl, rfl⟩) rfl rfl rfl (fun h8 => ?_)
  refine a_aload_n dX12_init_36 rfl 0 rfl ?_
  refine a_iconst (v := 4) dX12_init_37 (by decide) ?_
  refine a_newa_int (r := (p0 + 5)) [p0, p0] rfl dX12_init_38 w_arrayClass_int (by decide) (by decide) (fun h9 => ?_)
  refine a_widen 5 36 (by decide) (by decide) ?_
  refine a_dup dX12_init_40 rfl ?_
  refine a_iconst (v := 0) dX12_init_41 (by decide) ?_
  refine a_bipush (v := 40) dX12_init_42 (by decide) ?_
  refine a_iast dX12_init_44 (fun h10 => ?_)
  refine a_dup dX12_init_45 rfl ?_
  refine a_iconst (v := 1) dX12_init_46 (by decide) ?_
  refine a_sipush (v := 500) dX12_init_47 (by decide) ?_
  refine a_iast dX12_init_50 (fun h11 => ?_)
  refine a_dup dX12_init_51 rfl ?_
  refine a_iconst (v := 2) dX12_init_52 (by decide) ?_
  refine a_bipush (v := 20) dX12_init_53 (by decide) ?_
  refine a_iast dX12_init_55 (fun h12 => ?_)
  refine a_dup dX12_init_56 rfl ?_
  refine a_iconst (v := 3) dX12_init_57 (by decide) ?_
  refine a_iconst (v := 0) dX12_init_58 (by decide) ?_
  refine a_iast dX12_init_59 (fun h13 => ?_)
  refine a_putrF kc13 5 dX12_init_60 (by decide) rfl w_fieldLink_RainCoverModel_24 (fun _ => ⟨rfl, rfl⟩) rfl rfl rfl (fun h14 => ?_)
  refine a_aload_n dX12_init_63 rfl 0 rfl ?_
  refine a_iconst (v := 4) dX12_init_64 (by decide) ?_
  refine a_newa_int (r := (p0 + 6)) [p0, p0] rfl dX12_init_65 w_arrayClass_int (by decide) (by decide) (fun h15 => ?_)
  refine a_widen 6 40 (by decide) (by decide) ?_
  refine a_dup dX12_init_67 rfl ?_
  refine a_iconst (v := 0) dX12_init_68 (by decide) ?_
  refine a_sipush (v := 198) dX12_init_69 (by decide) ?_
  refine a_iast dX12_init_72 (fun h16 => ?_)
  refine a_dup dX12_init_73 rfl ?_
  refine a_iconst (v := 1) dX12_init_74 (by decide) ?_
  refine a_sipush (v := 9999) dX12_init_75 (by decide) ?_
  refine a_iast dX12_init_78 (fun h17 => ?_)
  refine a_dup dX12_init_79 rfl ?_
  refine a_iconst (v := 2) dX12_init_80 (by decide) ?_
  refine a_sipush (v := 300) dX12_init_81 (by decide) ?_
  refine a_iast dX12_init_84 (fun h18 => ?_)
  refine a_dup dX12_init_85 rfl ?_
  refine a_iconst (v := 3) dX12_init_86 (by decide) ?_
  refine a_bipush (v := 100) dX12_init_87 (by decide) ?_
  refine a_iast dX12_init_89 (fun h19 => ?_)
  refine a_putrF kc13 6 dX12_init_90 (by decide) rfl w_fieldLink_RainCoverModel_27 (fun _ => ⟨rfl, rfl⟩) rfl rfl rfl (fun h20 => ?_)
  refine a_aload_n dX12_init_93 rfl 0 rfl ?_
  refine a_sipush (v := 700) dX12_init_94 (by decide) ?_
  refine a_newa_boolean (r := (p0 + 8)) [p0, p0] rfl dX12_init_97 w_arrayClass_boolean (by decide) (by decide) (fun h21 => ?_)
  refine a_widen 7 740 (by decide) (by decide) ?_
  refine a_putrF kc13 8 dX12_init_99 (by decide) rfl w_fieldLink_RainCoverModel_30 (fun _ => ⟨rfl, rfl⟩) rfl rfl rfl (fun h22 => ?_)
  refine a_aload_n dX12_init_102 rfl 0 rfl ?_
  refine a_sipush (v := 700) dX12_init_103 (by decide) ?_
  refine a_newa_int (r := (p0 + 9)) [p0, p0] rfl dX12_init_106 w_arrayClass_int (by decide) (by decide) (fun h23 => ?_)
  refine a_widen 8 1440 (by decide) (by decide) ?_
  refine a_putrF kc13 9 dX12_init_108 (by decide) rfl w_fieldLink_RainCoverModel_34 (fun _ => ⟨rfl, rfl⟩) rfl rfl rfl (fun h24 => ?_)
  refine a_aload_n dX12_init_111 rfl 0 rfl ?_
  refine a_sipush (v := 700) dX12_init_112 (by decide) ?_
  refine a_newa_int (r := (p0 + 10)) [p0, p0] rfl dX12_init_115 w_arrayClass_int (by decide) (by decide) (fun h25 => ?_)
  refine a_widen 9 2140 (by decide) (by decide) ?_
  refine a_putrF kc13 10 dX12_init_117 (by decide) rfl w_fieldLink_RainCoverModel_37 (fun _ => ⟨rfl, rfl⟩) rfl rfl rfl (fun h26 => ?_)
  refine a_aload_n dX12_init_120 rfl 0 rfl ?_
  refine a_sipush (v := 3072) dX12_init_121 (by decide) ?_
  refine a_newa_int (r := (p0 + 11)) [p0, p0] rfl dX12_init_124 w_arrayClass_int (by decide) (by decide) (fun h27 => ?_)
  refine a_widen 10 5212 (by decide) (by decide) ?_
  refine a_putrF kc13 11 dX12_init_126 (by decide) rfl w_fieldLink_RainCoverModel_40 (fun _ => ⟨rfl, rfl⟩) rfl rfl rfl (fun h28 => ?_)
  refine a_aload_n dX12_init_129 rfl 0 rfl ?_
  refine a_sipush (v := 1536) dX12_init_130 (by decide) ?_
  refine a_newa_int (r := (p0 + 12)) [p0, p0] rfl dX12_init_133 w_arrayClass_int (by decide) (by decide) (fun h29 => ?_)
  refine a_widen 11 6748 (by decide) (by decide) ?_
  refine a_putrF kc13 12 dX12_init_135 (by decide) rfl w_fieldLink_RainCoverModel_43 (fun _ => ⟨rfl, rfl⟩) rfl rfl rfl (fun h30 => ?_)
  refine a_aload_n dX12_init_138 rfl 0 rfl ?_
  refine a_bipush (v := 8) dX12_init_139 (by decide) ?_
  refine a_newa_boolean (r := (p0 + 14)) [p0, p0] rfl dX12_init_141 w_arrayClass_boolean (by decide) (by decide) (fun h31 => ?_)
  refine a_widen 12 6756 (by decide) (by decide) ?_
  refine a_putrF kc13 14 dX12_init_143 (by decide) rfl w_fieldLink_RainCoverModel_46 (fun _ => ⟨rfl, rfl⟩) rfl rfl rfl (fun h32 => ?_)
  refine a_aload_n dX12_init_146 rfl 0 rfl ?_
  refine a_bipush (v := 8) dX12_init_147 (by decide) ?_
  refine a_newa_int (r := (p0 + 15)) [p0, p0] rfl dX12_init_149 w_arrayClass_int (by decide) (by decide) (fun h33 => ?_)
  refine a_widen 13 6764 (by decide) (by decide) ?_
  refine a_putrF kc13 15 dX12_init_151 (by decide) rfl w_fieldLink_RainCoverModel_49 (fun _ => ⟨rfl, rfl⟩) rfl rfl rfl (fun h34 => ?_)
  refine a_aload_n dX12_init_154 rfl 0 rfl ?_
  refine a_bipush (v := 8) dX12_init_155 (by decide) ?_
  refine a_newa_int (r := (p0 + 16)) [p0, p0] rfl dX12_init_157 w_arrayClass_int (by decide) (by decide) (fun h35 => ?_)
  refine a_widen 14 6772 (by decide) (by decide) ?_
  refine a_putrF kc13 16 dX12_init_159 (by decide) rfl w_fieldLink_RainCoverModel_52 (fun _ => ⟨rfl, rfl⟩) rfl rfl rfl (fun h36 => ?_)
  refine a_aload_n dX12_init_162 rfl 0 rfl ?_
  refine a_bipush (v := 8) dX12_init_163 (by decide) ?_
  refine a_newa_int (r := (p0 + 17)) [p0, p0] rfl dX12_init_165 w_arrayClass_int (by decide) (by decide) (fun h37 => ?_)
  refine a_widen 15 6780 (by decide) (by decide) ?_
  refine a_putrF kc13 17 dX12_init_167 (by decide) rfl w_fieldLink_RainCoverModel_55 (fun _ => ⟨rfl, rfl⟩) rfl rfl rfl (fun h38 => ?_)
  refine a_aload_n dX12_init_170 rfl 0 rfl ?_
  refine a_bipush (v := 8) dX12_init_171 (by decide) ?_
  refine a_newa_int (r := (p0 + 18)) [p0, p0] rfl dX12_init_173 w_arrayClass_int (by decide) (by decide) (fun h39 => ?_)
  refine a_widen 16 6788 (by decide) (by decide) ?_
  refine a_putrF kc13 18 dX12_init_175 (by decide) rfl w_fieldLink_RainCoverModel_58 (fun _ => ⟨rfl, rfl⟩) rfl rfl rfl (fun h40 => ?_)
  refine a_aload_n dX12_init_178 rfl 0 rfl ?_
  refine a_bipush (v := 8) dX12_init_179 (by decide) ?_
  refine a_newa_int (r := (p0 + 19)) [p0, p0] rfl dX12_init_181 w_arrayClass_int (by decide) (by decide) (fun h41 => ?_)
  refine a_widen 17 6796 (by decide) (by decide) ?_
  refine a_putrF kc13 19 dX12_init_183 (by decide) rfl w_fieldLink_RainCoverModel_61 (fun _ => ⟨rfl, rfl⟩) rfl rfl rfl (fun h42 => ?_)
  refine a_aload_n dX12_init_186 rfl 0 rfl ?_
  refine a_bipush (v := 32) dX12_init_187 (by decide) ?_
  refine a_newa_int (r := (p0 + 20)) [p0, p0] rfl dX12_init_189 w_arrayClass_int (by decide) (by decide) (fun h43 => ?_)
  refine a_widen 18 6828 (by decide) (by decide) ?_
  refine a_putrF kc13 20 dX12_init_191 (by decide) rfl w_fieldLink_RainCoverModel_64 (fun _ => ⟨rfl, rfl⟩) rfl rfl rfl (fun h44 => ?_)
  refine a_aload_n dX12_init_194 rfl 0 rfl ?_
  refine a_bipush (v := 32) dX12_init_195 (by decide) ?_
  refine a_newa_int (r := (p0 + 21)) [p0, p0] rfl dX12_init_197 w_arrayClass_int (by decide) (by decide) (fun h45 => ?_)
  refine a_widen 19 6860 (by decide) (by decide) ?_
  refine a_putrF kc13 21 dX12_init_199 (by decide) rfl w_fieldLink_RainCoverModel_67 (fun _ => ⟨rfl, rfl⟩) rfl rfl rfl (fun h46 => ?_)
  refine a_aload_n dX12_init_202 rfl 0 rfl ?_
  refine a_bipush (v := 32) dX12_init_203 (by decide) ?_
  refine a_newa_int (r := (p0 + 22)) [p0, p0] rfl dX12_init_205 w_arrayClass_int (by decide) (by decide) (fun h47 => ?_)
  refine a_widen 20 6892 (by decide) (by decide) ?_
  refine a_putrF kc13 22 dX12_init_207 (by decide) rfl w_fieldLink_RainCoverModel_70 (fun _ => ⟨rfl, rfl⟩) rfl rfl rfl (fun h48 => ?_)
  refine a_aload_n dX12_init_210 rfl 0 rfl ?_
  refine a_bipush (v := 32) dX12_init_211 (by decide) ?_
  refine a_newa_int (r := (p0 + 23)) [p0, p0] rfl dX12_init_213 w_arrayClass_int (by decide) (by decide) (fun h49 => ?_)
  refine a_widen 21 6924 (by decide) (by decide) ?_
  refine a_putrF kc13 23 dX12_init_215 (by decide) rfl w_fieldLink_RainCoverModel_73 (fun _ => ⟨rfl, rfl⟩) rfl rfl rfl (fun h50 => ?_)
  refine a_aload_n dX12_init_218 rfl 0 rfl ?_
  refine a_bipush (v := 32) dX12_init_219 (by decide) ?_
  refine a_newa_boolean (r := (p0 + 24)) [p0, p0] rfl dX12_init_221 w_arrayClass_boolean (by decide) (by decide) (fun h51 => ?_)
  refine a_widen 22 6956 (by decide) (by decide) ?_
  refine a_putrF kc13 24 dX12_init_223 (by decide) rfl w_fieldLink_RainCoverModel_76 (fun _ => ⟨rfl, rfl⟩) rfl rfl rfl (fun h52 => ?_)
  refine a_aload_n dX12_init_226 rfl 0 rfl ?_
  refine a_iconst (v := 4) dX12_init_227 (by decide) ?_
  refine a_newa_int (r := (p0 + 25)) [p0, p0] rfl dX12_init_228 w_arrayClass_int (by decide) (by decide) (fun h53 => ?_)
  refine a_widen 23 6960 (by decide) (by decide) ?_
  refine a_dup dX12_init_230 rfl ?_
  refine a_iconst (v := 0) dX12_init_231 (by decide) ?_
  refine a_bipush (v := 100) dX12_init_232 (by decide) ?_
  refine a_iast dX12_init_234 (fun h54 => ?_)
  refine a_dup dX12_init_235 rfl ?_
  refine a_iconst (v := 1) dX12_init_236 (by decide) ?_
  refine a_bipush (v := 80) dX12_init_237 (by decide) ?_
  refine a_iast dX12_init_239 (fun h55 => ?_)
  refine a_dup dX12_init_240 rfl ?_
  refine a_iconst (v := 2) dX12_init_241 (by decide) ?_
  refine a_bipush (v := 120) dX12_init_242 (by decide) ?_
  refine a_iast dX12_init_244 (fun h56 => ?_)
  refine a_dup dX12_init_245 rfl ?_
  refine a_iconst (v := 3) dX12_init_246 (by decide) ?_
  refine a_bipush (v := 60) dX12_init_247 (by decide) ?_
  refine a_iast dX12_init_249 (fun h57 => ?_)
  refine a_putrF kc13 25 dX12_init_250 (by decide) rfl w_fieldLink_RainCoverModel_79 (fun _ => ⟨rfl, rfl⟩) rfl rfl rfl (fun h58 => ?_)
  refine a_aload_n dX12_init_253 rfl 0 rfl ?_
  refine a_bipush (v := 24) dX12_init_254 (by decide) ?_
  refine a_newa_int (r := (p0 + 27)) [p0, p0] rfl dX12_init_256 w_arrayClass_int (by decide) (by decide) (fun h59 => ?_)
  refine a_widen 24 6984 (by decide) (by decide) ?_
  refine a_putrF kc13 27 dX12_init_258 (by decide) rfl w_fieldLink_RainCoverModel_82 (fun _ => ⟨rfl, rfl⟩) rfl rfl rfl (fun h60 => ?_)
  refine a_aload_n dX12_init_261 rfl 0 rfl ?_
  refine a_bipush (v := 24) dX12_init_262 (by decide) ?_
  refine a_newa_int (r := (p0 + 28)) [p0, p0] rfl dX12_init_264 w_arrayClass_int (by decide) (by decide) (fun h61 => ?_)
  refine a_widen 25 7008 (by decide) (by decide) ?_
  refine a_putrF kc13 28 dX12_init_266 (by decide) rfl w_fieldLink_RainCoverModel_85 (fun _ => ⟨rfl, rfl⟩) rfl rfl rfl (fun h62 => ?_)
  refine a_aload_n dX12_init_269 rfl 0 rfl ?_
  refine a_bipush (v := 24) dX12_init_270 (by decide) ?_
  refine a_newa_int (r := (p0 + 29)) [p0, p0] rfl dX12_init_272 w_arrayClass_int (by decide) (by decide) (fun h63 => ?_)
  refine a_widen 26 7032 (by decide) (by decide) ?_
  refine a_putrF kc13 29 dX12_init_274 (by decide) rfl w_fieldLink_RainCoverModel_88 (fun _ => ⟨rfl, rfl⟩) rfl rfl rfl (fun h64 => ?_)
  refine a_aload_n dX12_init_277 rfl 0 rfl ?_
  refine a_bipush (v := 24) dX12_init_278 (by decide) ?_
  refine a_newa_int (r := (p0 + 30)) [p0, p0] rfl dX12_init_280 w_arrayClass_int (by decide) (by decide) (fun h65 => ?_)
  refine a_widen 27 7056 (by decide) (by decide) ?_
  refine a_putrF kc13 30 dX12_init_282 (by decide) rfl w_fieldLink_RainCoverModel_91 (fun _ => ⟨rfl, rfl⟩) rfl rfl rfl (fun h66 => ?_)
  refine a_aload_n dX12_init_285 rfl 0 rfl ?_
  refine a_bipush (v := 24) dX12_init_286 (by decide) ?_
  refine a_newa_int (r := (p0 + 31)) [p0, p0] rfl dX12_init_288 w_arrayClass_int (by decide) (by decide) (fun h67 => ?_)
  refine a_widen 28 7080 (by decide) (by decide) ?_
  refine a_putrF kc13 31 dX12_init_290 (by decide) rfl w_fieldLink_RainCoverModel_94 (fun _ => ⟨rfl, rfl⟩) rfl rfl rfl (fun h68 => ?_)
  refine a_aload_n dX12_init_293 rfl 0 rfl ?_
  refine a_bipush (v := 24) dX12_init_294 (by decide) ?_
  refine a_newa_int (r := (p0 + 32)) [p0, p0] rfl dX12_init_296 w_arrayClass_int (by decide) (by decide) (fun h69 => ?_)
  refine a_widen 29 7104 (by decide) (by decide) ?_
  refine a_putrF kc13 32 dX12_init_298 (by decide) rfl w_fieldLink_RainCoverModel_97 (fun _ => ⟨rfl, rfl⟩) rfl rfl rfl (fun h70 => ?_)
  refine a_aload_n dX12_init_301 rfl 0 rfl ?_
  refine a_bipush (v := 24) dX12_init_302 (by decide) ?_
  refine a_newa_int (r := (p0 + 33)) [p0, p0] rfl dX12_init_304 w_arrayClass_int (by decide) (by decide) (fun h71 => ?_)
  refine a_widen 30 7128 (by decide) (by decide) ?_
  refine a_putrF kc13 33 dX12_init_306 (by decide) rfl w_fieldLink_RainCoverModel_100 (fun _ => ⟨rfl, rfl⟩) rfl rfl rfl (fun h72 => ?_)
  refine a_aload_n dX12_init_309 rfl 0 rfl ?_
  refine a_sipush (v := 384) dX12_init_310 (by decide) ?_
  refine a_newa_int (r := (p0 + 34)) [p0, p0] rfl dX12_init_313 w_arrayClass_int (by decide) (by decide) (fun h73 => ?_)
  refine a_widen 31 7512 (by decide) (by decide) ?_
  refine a_putrF kc13 34 dX12_init_315 (by decide) rfl w_fieldLink_RainCoverModel_103 (fun _ => ⟨rfl, rfl⟩) rfl rfl rfl (fun h74 => ?_)
  refine a_aload_n dX12_init_318 rfl 0 rfl ?_
  refine a_iconst (v := 4) dX12_init_319 (by decide) ?_
  refine a_newa_int (r := (p0 + 35)) [p0, p0] rfl dX12_init_320 w_arrayClass_int (by decide) (by decide) (fun h75 => ?_)
  refine a_widen 32 7516 (by decide) (by decide) ?_
  refine a_putrF kc13 35 dX12_init_322 (by decide) rfl w_fieldLink_RainCoverModel_106 (fun _ => ⟨rfl, rfl⟩) rfl rfl rfl (fun h76 => ?_)
  refine a_aload_n dX12_init_325 rfl 0 rfl ?_
  refine a_bipush (v := 60) dX12_init_326 (by decide) ?_
  refine a_newa_int (r := (p0 + 37)) [p0, p0] rfl dX12_init_328 w_arrayClass_int (by decide) (by decide) (fun h77 => ?_)
  refine a_widen 33 7576 (by decide) (by decide) ?_
  refine a_putrF kc13 37 dX12_init_330 (by decide) rfl w_fieldLink_RainCoverModel_109 (fun _ => ⟨rfl, rfl⟩) rfl rfl rfl (fun h78 => ?_)
  refine a_aload_n dX12_init_333 rfl 0 rfl ?_
  refine a_bipush (v := 60) dX12_init_334 (by decide) ?_
  refine a_newa_int (r := (p0 + 38)) [p0, p0] rfl dX12_init_336 w_arrayClass_int (by decide) (by decide) (fun h79 => ?_)
  refine a_widen 34 7636 (by decide) (by decide) ?_
  refine a_putrF kc13 38 dX12_init_338 (by decide) rfl w_fieldLink_RainCoverModel_112 (fun _ => ⟨rfl, rfl⟩) rfl rfl rfl (fun h80 => ?_)
  refine a_aload_n dX12_init_341 rfl 0 rfl ?_
  refine a_bipush (v := 60) dX12_init_342 (by decide) ?_
  refine a_newa_int (r := (p0 + 39)) [p0, p0] rfl dX12_init_344 w_arrayClass_int (by decide) (by decide) (fun h81 => ?_)
  refine a_widen 35 7696 (by decide) (by decide) ?_
  refine a_putrF kc13 39 dX12_init_346 (by decide) rfl w_fieldLink_RainCoverModel_115 (fun _ => ⟨rfl, rfl⟩) rfl rfl rfl (fun h82 => ?_)
  refine a_aload_n dX12_init_349 rfl 0 rfl ?_
  refine a_bipush (v := 60) dX12_init_350 (by decide) ?_
  refine a_newa_int (r := (p0 + 40)) [p0, p0] rfl dX12_init_352 w_arrayClass_int (by decide) (by decide) (fun h83 => ?_)
  refine a_widen 36 7756 (by decide) (by decide) ?_
  refine a_putrF kc13 40 dX12_init_354 (by decide) rfl w_fieldLink_RainCoverModel_118 (fun _ => ⟨rfl, rfl⟩) rfl rfl rfl (fun h84 => ?_)
  refine a_aload_n dX12_init_357 rfl 0 rfl ?_
  refine a_bipush (v := 80) dX12_init_358 (by decide) ?_
  refine a_newa_int (r := (p0 + 42)) [p0, p0] rfl dX12_init_360 w_arrayClass_int (by decide) (by decide) (fun h85 => ?_)
  refine a_widen 37 7836 (by decide) (by decide) ?_
  refine a_putrF kc13 42 dX12_init_362 (by decide) rfl w_fieldLink_RainCoverModel_121 (fun _ => ⟨rfl, rfl⟩) rfl rfl rfl (fun h86 => ?_)
  refine a_aload_n dX12_init_365 rfl 0 rfl ?_
  refine a_bipush (v := 80) dX12_init_366 (by decide) ?_
  refine a_newa_int (r := (p0 + 43)) [p0, p0] rfl dX12_init_368 w_arrayClass_int (by decide) (by decide) (fun h87 => ?_)
  refine a_widen 38 7916 (by decide) (by decide) ?_
  refine a_putrF kc13 43 dX12_init_370 (by decide) rfl w_fieldLink_RainCoverModel_124 (fun _ => ⟨rfl, rfl⟩) rfl rfl rfl (fun h88 => ?_)
  refine a_aload_n dX12_init_373 rfl 0 rfl ?_
  refine a_bipush (v := 80) dX12_init_374 (by decide) ?_
  refine a_newa_int (r := (p0 + 44)) [p0, p0] rfl dX12_init_376 w_arrayClass_int (by decide) (by decide) (fun h89 => ?_)
  refine a_widen 39 7996 (by decide) (by decide) ?_
  refine a_putrF kc13 44 dX12_init_378 (by decide) rfl w_fieldLink_RainCoverModel_127 (fun _ => ⟨rfl, rfl⟩) rfl rfl rfl (fun h90 => ?_)
  refine a_aload_n dX12_init_381 rfl 0 rfl ?_
  refine a_bipush (v := 80) dX12_init_382 (by decide) ?_
  refine a_newa_int (r := (p0 + 45)) [p0, p0] rfl dX12_init_384 w_arrayClass_int (by decide) (by decide) (fun h91 => ?_)
  refine a_widen 40 8076 (by decide) (by decide) ?_
  refine a_putrF kc13 45 dX12_init_386 (by decide) rfl w_fieldLink_RainCoverModel_130 (fun _ => ⟨rfl, rfl⟩) rfl rfl rfl (fun h92 => ?_)
  refine a_aload_n dX12_init_389 rfl 0 rfl ?_
  refine a_bipush (v := 8) dX12_init_390 (by decide) ?_
  refine a_newa_int (r := (p0 + 47)) [p0, p0] rfl dX12_init_392 w_arrayClass_int (by decide) (by decide) (fun h93 => ?_)
  refine a_widen 41 8084 (by decide) (by decide) ?_
  refine a_putrF kc13 47 dX12_init_394 (by decide) rfl w_fieldLink_RainCoverModel_133 (fun _ => ⟨rfl, rfl⟩) rfl rfl rfl (fun h94 => ?_)
  refine a_aload_n dX12_init_397 rfl 0 rfl ?_
  refine a_bipush (v := 8) dX12_init_398 (by decide) ?_
  refine a_newa_int (r := (p0 + 48)) [p0, p0] rfl dX12_init_400 w_arrayClass_int (by decide) (by decide) (fun h95 => ?_)
  refine a_widen 42 8092 (by decide) (by decide) ?_
  refine a_putrF kc13 48 dX12_init_402 (by decide) rfl w_fieldLink_RainCoverModel_136 (fun _ => ⟨rfl, rfl⟩) rfl rfl rfl (fun h96 => ?_)
  refine a_aload_n dX12_init_405 rfl 0 rfl ?_
  refine a_sipush (v := 200) dX12_init_406 (by decide) ?_
  refine a_newa_int (r := (p0 + 50)) [p0, p0] rfl dX12_init_409 w_arrayClass_int (by decide) (by decide) (fun h97 => ?_)
  refine a_widen 43 8292 (by decide) (by decide) ?_
  refine a_putrF kc13 50 dX12_init_411 (by decide) rfl w_fieldLink_RainCoverModel_139 (fun _ => ⟨rfl, rfl⟩) rfl rfl rfl (fun h98 => ?_)
  refine a_aload_n dX12_init_414 rfl 0 rfl ?_
  refine a_sipush (v := 200) dX12_init_415 (by decide) ?_
  refine a_newa_int (r := (p0 + 51)) [p0, p0] rfl dX12_init_418 w_arrayClass_int (by decide) (by decide) (fun h99 => ?_)
  refine a_widen 44 8492 (by decide) (by decide) ?_
  refine a_putrF kc13 51 dX12_init_420 (by decide) rfl w_fieldLink_RainCoverModel_142 (fun _ => ⟨rfl, rfl⟩) rfl rfl rfl (fun h100 => ?_)
  refine a_aload_n dX12_init_423 rfl 0 rfl ?_
  refine a_sipush (v := 200) dX12_init_424 (by decide) ?_
  refine a_newa_int (r := (p0 + 52)) [p0, p0] rfl dX12_init_427 w_arrayClass_int (by decide) (by decide) (fun h101 => ?_)
  refine a_widen 45 8692 (by decide) (by decide) ?_
  refine a_putrF kc13 52 dX12_init_429 (by decide) rfl w_fieldLink_RainCoverModel_145 (fun _ => ⟨rfl, rfl⟩) rfl rfl rfl (fun h102 => ?_)
  refine a_aload_n dX12_init_432 rfl 0 rfl ?_
  refine a_sipush (v := 200) dX12_init_433 (by decide) ?_
  refine a_newa_int (r := (p0 + 53)) [p0, p0] rfl dX12_init_436 w_arrayClass_int (by decide) (by decide) (fun h103 => ?_)
  refine a_widen 46 8892 (by decide) (by decide) ?_
  refine a_putrF kc13 53 dX12_init_438 (by decide) rfl w_fieldLink_RainCoverModel_148 (fun _ => ⟨rfl, rfl⟩) rfl rfl rfl (fun h104 => ?_)
  refine a_aload_n dX12_init_441 rfl 0 rfl ?_
  refine a_bipush (v := 20) dX12_init_442 (by decide) ?_
  refine a_newa_int (r := (p0 + 56)) [p0, p0] rfl dX12_init_444 w_arrayClass_int (by decide) (by decide) (fun h105 => ?_)
  refine a_widen 47 8912 (by decide) (by decide) ?_
  refine a_putrF kc13 56 dX12_init_446 (by decide) rfl w_fieldLink_RainCoverModel_151 (fun _ => ⟨rfl, rfl⟩) rfl rfl rfl (fun h106 => ?_)
  refine a_aload_n dX12_init_449 rfl 0 rfl ?_
  refine a_bipush (v := 20) dX12_init_450 (by decide) ?_
  refine a_newa_int (r := (p0 + 57)) [p0, p0] rfl dX12_init_452 w_arrayClass_int (by decide) (by decide) (fun h107 => ?_)
  refine a_widen 48 8932 (by decide) (by decide) ?_
  refine a_putrF kc13 57 dX12_init_454 (by decide) rfl w_fieldLink_RainCoverModel_154 (fun _ => ⟨rfl, rfl⟩) rfl rfl rfl (fun h108 => ?_)
  refine a_aload_n dX12_init_457 rfl 0 rfl ?_
  refine a_bipush (v := 20) dX12_init_458 (by decide) ?_
  refine a_newa_int (r := (p0 + 58)) [p0, p0] rfl dX12_init_460 w_arrayClass_int (by decide) (by decide) (fun h109 => ?_)
  refine a_widen 49 8952 (by decide) (by decide) ?_
  refine a_putrF kc13 58 dX12_init_462 (by decide) rfl w_fieldLink_RainCoverModel_157 (fun _ => ⟨rfl, rfl⟩) rfl rfl rfl (fun h110 => ?_)
  refine a_aload_n dX12_init_465 rfl 0 rfl ?_
  refine a_bipush (v := 20) dX12_init_466 (by decide) ?_
  refine a_newa_int (r := (p0 + 59)) [p0, p0] rfl dX12_init_468 w_arrayClass_int (by decide) (by decide) (fun h111 => ?_)
  refine a_widen 50 8972 (by decide) (by decide) ?_
  refine a_putrF kc13 59 dX12_init_470 (by decide) rfl w_fieldLink_RainCoverModel_160 (fun _ => ⟨rfl, rfl⟩) rfl rfl rfl (fun h112 => ?_)
  refine a_aload_n dX12_init_473 rfl 0 rfl ?_
  refine a_bipush (v := 20) dX12_init_474 (by decide) ?_
  refine a_newa_int (r := (p0 + 60)) [p0, p0] rfl dX12_init_476 w_arrayClass_int (by decide) (by decide) (fun h113 => ?_)
  refine a_widen 51 8992 (by decide) (by decide) ?_
  refine a_putrF kc13 60 dX12_init_478 (by decide) rfl w_fieldLink_RainCoverModel_163 (fun _ => ⟨rfl, rfl⟩) rfl rfl rfl (fun h114 => ?_)
  refine a_aload_n dX12_init_481 rfl 0 rfl ?_
  refine a_iconst (v := 1) dX12_init_482 (by decide) ?_
  refine a_puti kc13 61 dX12_init_483 (by decide) rfl w_fieldLink_RainCoverModel_166 rfl rfl (fun h115 => ?_)
  refine a_aload_n dX12_init_486 rfl 0 rfl ?_
  refine a_bipush (v := 100) dX12_init_487 (by decide) ?_
  refine a_newa_int (r := (p0 + 62)) [p0, p0] rfl dX12_init_489 w_arrayClass_int (by decide) (by decide) (fun h116 => ?_)
  refine a_widen 52 9092 (by decide) (by decide) ?_
  refine a_putrF kc13 62 dX12_init_491 (by decide) rfl w_fieldLink_RainCoverModel_170 (fun _ => ⟨rfl, rfl⟩) rfl rfl rfl (fun h117 => ?_)
  refine a_aload_n dX12_init_494 rfl 0 rfl ?_
  refine a_bipush (v := 20) dX12_init_495 (by decide) ?_
  refine a_newa_int (r := (p0 + 65)) [p0, p0] rfl dX12_init_497 w_arrayClass_int (by decide) (by decide) (fun h118 => ?_)
  refine a_widen 53 9112 (by decide) (by decide) ?_
  refine a_putrF kc13 65 dX12_init_499 (by decide) rfl w_fieldLink_RainCoverModel_173 (fun _ => ⟨rfl, rfl⟩) rfl rfl rfl (fun h119 => ?_)
  refine a_aload_n dX12_init_502 rfl 0 rfl ?_
  refine a_iconst (v := 3) dX12_init_503 (by decide) ?_
  refine a_newa_int (r := (p0 + 66)) [p0, p0] rfl dX12_init_504 w_arrayClass_int (by decide) (by decide) (fun h120 => ?_)
  refine a_widen 54 9115 (by decide) (by decide) ?_
  refine a_dup dX12_init_506 rfl ?_
  refine a_iconst (v := 0) dX12_init_507 (by decide) ?_
  refine a_iconst (v := (-1)) dX12_init_508 (by decide) ?_
  refine a_iast dX12_init_509 (fun h121 => ?_)
  refine a_dup dX12_init_510 rfl ?_
  refine a_iconst (v := 1) dX12_init_511 (by decide) ?_
  refine a_iconst (v := (-1)) dX12_init_512 (by decide) ?_
  refine a_iast dX12_init_513 (fun h122 => ?_)
  refine a_dup dX12_init_514 rfl ?_
  refine a_iconst (v := 2) dX12_init_515 (by decide) ?_
  refine a_iconst (v := (-1)) dX12_init_516 (by decide) ?_
  refine a_iast dX12_init_517 (fun h123 => ?_)
  refine a_putrF kc13 66 dX12_init_518 (by decide) rfl w_fieldLink_RainCoverModel_176 (fun _ => ⟨rfl, rfl⟩) rfl rfl rfl (fun h124 => ?_)
  refine a_aload_n dX12_init_521 rfl 0 rfl ?_
  refine a_iconst (v := 3) dX12_init_522 (by decide) ?_
  refine a_newa_int (r := (p0 + 67)) [p0, p0] rfl dX12_init_523 w_arrayClass_int (by decide) (by decide) (fun h125 => ?_)
  refine a_widen 55 9118 (by decide) (by decide) ?_
  refine a_putrF kc13 67 dX12_init_525 (by decide) rfl w_fieldLink_RainCoverModel_179 (fun _ => ⟨rfl, rfl⟩) rfl rfl rfl (fun h126 => ?_)
  refine a_aload_n dX12_init_528 rfl 0 rfl ?_
  refine a_bipush (v := 120) dX12_init_529 (by decide) ?_
  refine a_newa_int (r := (p0 + 68)) [p0, p0] rfl dX12_init_531 w_arrayClass_int (by decide) (by decide) (fun h127 => ?_)
  refine a_widen 56 9238 (by decide) (by decide) ?_
  refine a_putrF kc13 68 dX12_init_533 (by decide) rfl w_fieldLink_RainCoverModel_182 (fun _ => ⟨rfl, rfl⟩) rfl rfl rfl (fun h128 => ?_)
  refine a_aload_n dX12_init_536 rfl 0 rfl ?_
  refine a_bipush (v := 79) dX12_init_537 (by decide) ?_
  refine a_newa_int (r := (p0 + 71)) [p0, p0] rfl dX12_init_539 w_arrayClass_int (by decide) (by decide) (fun h129 => ?_)
  refine a_widen 57 9317 (by decide) (by decide) ?_
  refine a_dup dX12_init_541 rfl ?_
  refine a_iconst (v := 0) dX12_init_542 (by decide) ?_
  refine a_bipush (v := 112) dX12_init_543 (by decide) ?_
  refine a_iast dX12_init_545 (fun h130 => ?_)
  refine a_dup dX12_init_546 rfl ?_
  refine a_iconst (v := 1) dX12_init_547 (by decide) ?_
  refine a_bipush (v := 97) dX12_init_548 (by decide) ?_
  refine a_iast dX12_init_550 (fun h131 => ?_)
  refine a_dup dX12_init_551 rfl ?_
  refine a_iconst (v := 2) dX12_init_552 (by decide) ?_
  refine a_bipush (v := 121) dX12_init_553 (by decide) ?_
  refine a_iast dX12_init_555 (fun h132 => ?_)
  refine a_dup dX12_init_556 rfl ?_
  refine a_iconst (v := 3) dX12_init_557 (by decide) ?_
  refine a_bipush (v := 32) dX12_init_558 (by decide) ?_
  refine a_iast dX12_init_560 (fun h133 => ?_)
  refine a_dup dX12_init_561 rfl ?_
  refine a_iconst (v := 4) dX12_init_562 (by decide) ?_
  refine a_iconst (v := 0) dX12_init_563 (by decide) ?_
  refine a_iast dX12_init_564 (fun h134 => ?_)
  refine a_dup dX12_init_565 rfl ?_
  refine a_iconst (v := 5) dX12_init_566 (by decide) ?_
  refine a_bipush (v := 32) dX12_init_567 (by decide) ?_
  refine a_iast dX12_init_569 (fun h135 => ?_)
  refine a_dup dX12_init_570 rfl ?_
  refine a_bipush (v := 6) dX12_init_571 (by decide) ?_
  refine a_bipush (v := 105) dX12_init_573 (by decide) ?_
  refine a_iast dX12_init_575 (fun h136 => ?_)
  refine a_dup dX12_init_576 rfl ?_
  refine a_bipush (v := 7) dX12_init_577 (by decide) ?_
  refine a_bipush (v := 102) dX12_init_579 (by decide) ?_
  refine a_iast dX12_init_581 (fun h137 => ?_)
  refine a_dup dX12_init_582 rfl ?_
  refine a_bipush (v := 8) dX12_init_583 (by decide) ?_
  refine a_bipush (v := 32) dX12_init_585 (by decide) ?_
  refine a_iast dX12_init_587 (fun h138 => ?_)
  refine a_dup dX12_init_588 rfl ?_
  refine a_bipush (v := 9) dX12_init_589 (by decide) ?_
  refine a_iconst (v := 0) dX12_init_591 (by decide) ?_
  refine a_iast dX12_init_592 (fun h139 => ?_)
  refine a_dup dX12_init_593 rfl ?_
  refine a_bipush (v := 10) dX12_init_594 (by decide) ?_
  refine a_bipush (v := 114) dX12_init_596 (by decide) ?_
  refine a_iast dX12_init_598 (fun h140 => ?_)
  refine a_dup dX12_init_599 rfl ?_
  refine a_bipush (v := 11) dX12_init_600 (by decide) ?_
  refine a_bipush (v := 97) dX12_init_602 (by decide) ?_
  refine a_iast dX12_init_604 (fun h141 => ?_)
  refine a_dup dX12_init_605 rfl ?_
  refine a_bipush (v := 12) dX12_init_606 (by decide) ?_
  refine a_bipush (v := 116) dX12_init_608 (by decide) ?_
  refine a_iast dX12_init_610 (fun h142 => ?_)
  refine a_dup dX12_init_611 rfl ?_
  refine a_bipush (v := 13) dX12_init_612 (by decide) ?_
  refine a_bipush (v := 101) dX12_init_614 (by decide) ?_
  refine a_iast dX12_init_616 (fun h143 => ?_)
  refine a_dup dX12_init_617 rfl ?_
  refine a_bipush (v := 14) dX12_init_618 (by decide) ?_
  refine a_bipush (v := 32) dX12_init_620 (by decide) ?_
  refine a_iast dX12_init_622 (fun h144 => ?_)
  refine a_dup dX12_init_623 rfl ?_
  refine a_bipush (v := 15) dX12_init_624 (by decide) ?_
  refine a_iconst (v := 0) dX12_init_626 (by decide) ?_
  refine a_iast dX12_init_627 (fun h145 => ?_)
  refine a_dup dX12_init_628 rfl ?_
  refine a_bipush (v := 16) dX12_init_629 (by decide) ?_
  refine a_bipush (v := 32) dX12_init_631 (by decide) ?_
  refine a_iast dX12_init_633 (fun h146 => ?_)
  refine a_dup dX12_init_634 rfl ?_
  refine a_bipush (v := 17) dX12_init_635 (by decide) ?_
  refine a_bipush (v := 112) dX12_init_637 (by decide) ?_
  refine a_iast dX12_init_639 (fun h147 => ?_)
  refine a_dup dX12_init_640 rfl ?_
  refine a_bipush (v := 18) dX12_init_641 (by decide) ?_
  refine a_bipush (v := 101) dX12_init_643 (by decide) ?_
  refine a_iast dX12_init_645 (fun h148 => ?_)
  refine a_dup dX12_init_646 rfl ?_
  refine a_bipush (v := 19) dX12_init_647 (by decide) ?_
  refine a_bipush (v := 114) dX12_init_649 (by decide) ?_
  refine a_iast dX12_init_651 (fun h149 => ?_)
  refine a_dup dX12_init_652 rfl ?_
  refine a_bipush (v := 20) dX12_init_653 (by decide) ?_
  refine a_bipush (v := 32) dX12_init_655 (by decide) ?_
  refine a_iast dX12_init_657 (fun h150 => ?_)
  refine a_dup dX12_init_658 rfl ?_
  refine a_bipush (v := 21) dX12_init_659 (by decide) ?_
  refine a_iconst (v := 0) dX12_init_661 (by decide) ?_
  refine a_iast dX12_init_662 (fun h151 => ?_)
  refine a_dup dX12_init_663 rfl ?_
  refine a_bipush (v := 22) dX12_init_664 (by decide) ?_
  refine a_bipush (v := 32) dX12_init_666 (by decide) ?_
  refine a_iast dX12_init_668 (fun h152 => ?_)
  refine a_dup dX12_init_669 rfl ?_
  refine a_bipush (v := 23) dX12_init_670 (by decide) ?_
  refine a_bipush (v := 98) dX12_init_672 (by decide) ?_
  refine a_iast dX12_init_674 (fun h153 => ?_)
  refine a_dup dX12_init_675 rfl ?_
  refine a_bipush (v := 24) dX12_init_676 (by decide) ?_
  refine a_bipush (v := 101) dX12_init_678 (by decide) ?_
  refine a_iast dX12_init_680 (fun h154 => ?_)
  refine a_dup dX12_init_681 rfl ?_
  refine a_bipush (v := 25) dX12_init_682 (by decide) ?_
  refine a_bipush (v := 108) dX12_init_684 (by decide) ?_
  refine a_iast dX12_init_686 (fun h155 => ?_)
  refine a_dup dX12_init_687 rfl ?_
  refine a_bipush (v := 26) dX12_init_688 (by decide) ?_
  refine a_bipush (v := 111) dX12_init_690 (by decide) ?_
  refine a_iast dX12_init_692 (fun h156 => ?_)
  refine a_dup dX12_init_693 rfl ?_
  refine a_bipush (v := 27) dX12_init_694 (by decide) ?_
  refine a_bipush (v := 119) dX12_init_696 (by decide) ?_
  refine a_iast dX12_init_698 (fun h157 => ?_)
  refine a_dup dX12_init_699 rfl ?_
  refine a_bipush (v := 28) dX12_init_700 (by decide) ?_
  refine a_bipush (v := 32) dX12_init_702 (by decide) ?_
  refine a_iast dX12_init_704 (fun h158 => ?_)
  refine a_dup dX12_init_705 rfl ?_
  refine a_bipush (v := 29) dX12_init_706 (by decide) ?_
  refine a_iconst (v := 0) dX12_init_708 (by decide) ?_
  refine a_iast dX12_init_709 (fun h159 => ?_)
  refine a_dup dX12_init_710 rfl ?_
  refine a_bipush (v := 30) dX12_init_711 (by decide) ?_
  refine a_bipush (v := 32) dX12_init_713 (by decide) ?_
  refine a_iast dX12_init_715 (fun h160 => ?_)
  refine a_dup dX12_init_716 rfl ?_
  refine a_bipush (v := 31) dX12_init_717 (by decide) ?_
  refine a_bipush (v := 111) dX12_init_719 (by decide) ?_
  refine a_iast dX12_init_721 (fun h161 => ?_)
  refine a_dup dX12_init_722 rfl ?_
  refine a_bipush (v := 32) dX12_init_723 (by decide) ?_
  refine a_bipush (v := 102) dX12_init_725 (by decide) ?_
  refine a_iast dX12_init_727 (fun h162 => ?_)
  refine a_dup dX12_init_728 rfl ?_
  refine a_bipush (v := 33) dX12_init_729 (by decide) ?_
  refine a_bipush (v := 32) dX12_init_731 (by decide) ?_
  refine a_iast dX12_init_733 (fun h163 => ?_)
  refine a_dup dX12_init_734 rfl ?_
  refine a_bipush (v := 34) dX12_init_735 (by decide) ?_
  refine a_bipush (v := 115) dX12_init_737 (by decide) ?_
  refine a_iast dX12_init_739 (fun h164 => ?_)
  refine a_dup dX12_init_740 rfl ?_
  refine a_bipush (v := 35) dX12_init_741 (by decide) ?_
  refine a_bipush (v := 117) dX12_init_743 (by decide) ?_
  refine a_iast dX12_init_745 (fun h165 => ?_)
  refine a_dup dX12_init_746 rfl ?_
  refine a_bipush (v := 36) dX12_init_747 (by decide) ?_
  refine a_bipush (v := 109) dX12_init_749 (by decide) ?_
  refine a_iast dX12_init_751 (fun h166 => ?_)
  refine a_dup dX12_init_752 rfl ?_
  refine a_bipush (v := 37) dX12_init_753 (by decide) ?_
  refine a_bipush (v := 32) dX12_init_755 (by decide) ?_
  refine a_iast dX12_init_757 (fun h167 => ?_)
  refine a_dup dX12_init_758 rfl ?_
  refine a_bipush (v := 38) dX12_init_759 (by decide) ?_
  refine a_iconst (v := 0) dX12_init_761 (by decide) ?_
  refine a_iast dX12_init_762 (fun h168 => ?_)
  refine a_dup dX12_init_763 rfl ?_
  refine a_bipush (v := 39) dX12_init_764 (by decide) ?_
  refine a_bipush (v := 32) dX12_init_766 (by decide) ?_
  refine a_iast dX12_init_768 (fun h169 => ?_)
  refine a_dup dX12_init_769 rfl ?_
  refine a_bipush (v := 40) dX12_init_770 (by decide) ?_
  refine a_bipush (v := 116) dX12_init_772 (by decide) ?_
  refine a_iast dX12_init_774 (fun h170 => ?_)
  refine a_dup dX12_init_775 rfl ?_
  refine a_bipush (v := 41) dX12_init_776 (by decide) ?_
  refine a_bipush (v := 111) dX12_init_778 (by decide) ?_
  refine a_iast dX12_init_780 (fun h171 => ?_)
  refine a_dup dX12_init_781 rfl ?_
  refine a_bipush (v := 42) dX12_init_782 (by decide) ?_
  refine a_bipush (v := 32) dX12_init_784 (by decide) ?_
  refine a_iast dX12_init_786 (fun h172 => ?_)
  refine a_dup dX12_init_787 rfl ?_
  refine a_bipush (v := 43) dX12_init_788 (by decide) ?_
  refine a_iconst (v := 0) dX12_init_790 (by decide) ?_
  refine a_iast dX12_init_791 (fun h173 => ?_)
  refine a_dup dX12_init_792 rfl ?_
  refine a_bipush (v := 44) dX12_init_793 (by decide) ?_
  refine a_bipush (v := 32) dX12_init_795 (by decide) ?_
  refine a_iast dX12_init_797 (fun h174 => ?_)
  refine a_dup dX12_init_798 rfl ?_
  refine a_bipush (v := 45) dX12_init_799 (by decide) ?_
  refine a_bipush (v := 109) dX12_init_801 (by decide) ?_
  refine a_iast dX12_init_803 (fun h175 => ?_)
  refine a_dup dX12_init_804 rfl ?_
  refine a_bipush (v := 46) dX12_init_805 (by decide) ?_
  refine a_bipush (v := 97) dX12_init_807 (by decide) ?_
  refine a_iast dX12_init_809 (fun h176 => ?_)
  refine a_dup dX12_init_810 rfl ?_
  refine a_bipush (v := 47) dX12_init_811 (by decide) ?_
  refine a_bipush (v := 120) dX12_init_813 (by decide) ?_
  refine a_iast dX12_init_815 (fun h177 => ?_)
  refine a_dup dX12_init_816 rfl ?_
  refine a_bipush (v := 48) dX12_init_817 (by decide) ?_
  refine a_bipush (v := 32) dX12_init_819 (by decide) ?_
  refine a_iast dX12_init_821 (fun h178 => ?_)
  refine a_dup dX12_init_822 rfl ?_
  refine a_bipush (v := 49) dX12_init_823 (by decide) ?_
  refine a_iconst (v := 0) dX12_init_825 (by decide) ?_
  refine a_iast dX12_init_826 (fun h179 => ?_)
  refine a_dup dX12_init_827 rfl ?_
  refine a_bipush (v := 50) dX12_init_828 (by decide) ?_
  refine a_bipush (v := 115) dX12_init_830 (by decide) ?_
  refine a_iast dX12_init_832 (fun h180 => ?_)
  refine a_dup dX12_init_833 rfl ?_
  refine a_bipush (v := 51) dX12_init_834 (by decide) ?_
  refine a_bipush (v := 117) dX12_init_836 (by decide) ?_
  refine a_iast dX12_init_838 (fun h181 => ?_)
  refine a_dup dX12_init_839 rfl ?_
  refine a_bipush (v := 52) dX12_init_840 (by decide) ?_
  refine a_bipush (v := 109) dX12_init_842 (by decide) ?_
  refine a_iast dX12_init_844 (fun h182 => ?_)
  refine a_dup dX12_init_845 rfl ?_
  refine a_bipush (v := 53) dX12_init_846 (by decide) ?_
  refine a_bipush (v := 32) dX12_init_848 (by decide) ?_
  refine a_iast dX12_init_850 (fun h183 => ?_)
  refine a_dup dX12_init_851 rfl ?_
  refine a_bipush (v := 54) dX12_init_852 (by decide) ?_
  refine a_iconst (v := 0) dX12_init_854 (by decide) ?_
  refine a_iast dX12_init_855 (fun h184 => ?_)
  refine a_dup dX12_init_856 rfl ?_
  refine a_bipush (v := 55) dX12_init_857 (by decide) ?_
  refine a_bipush (v := 100) dX12_init_859 (by decide) ?_
  refine a_iast dX12_init_861 (fun h185 => ?_)
  refine a_dup dX12_init_862 rfl ?_
  refine a_bipush (v := 56) dX12_init_863 (by decide) ?_
  refine a_bipush (v := 114) dX12_init_865 (by decide) ?_
  refine a_iast dX12_init_867 (fun h186 => ?_)
  refine a_dup dX12_init_868 rfl ?_
  refine a_bipush (v := 57) dX12_init_869 (by decide) ?_
  refine a_bipush (v := 121) dX12_init_871 (by decide) ?_
  refine a_iast dX12_init_873 (fun h187 => ?_)
  refine a_dup dX12_init_874 rfl ?_
  refine a_bipush (v := 58) dX12_init_875 (by decide) ?_
  refine a_bipush (v := 32) dX12_init_877 (by decide) ?_
  refine a_iast dX12_init_879 (fun h188 => ?_)
  refine a_dup dX12_init_880 rfl ?_
  refine a_bipush (v := 59) dX12_init_881 (by decide) ?_
  refine a_iconst (v := 0) dX12_init_883 (by decide) ?_
  refine a_iast dX12_init_884 (fun h189 => ?_)
  refine a_dup dX12_init_885 rfl ?_
  refine a_bipush (v := 60) dX12_init_886 (by decide) ?_
  refine a_bipush (v := 103) dX12_init_888 (by decide) ?_
  refine a_iast dX12_init_890 (fun h190 => ?_)
  refine a_dup dX12_init_891 rfl ?_
  refine a_bipush (v := 61) dX12_init_892 (by decide) ?_
  refine a_bipush (v := 114) dX12_init_894 (by decide) ?_
  refine a_iast dX12_init_896 (fun h191 => ?_)
  refine a_dup dX12_init_897 rfl ?_
  refine a_bipush (v := 62) dX12_init_898 (by decide) ?_
  refine a_bipush (v := 101) dX12_init_900 (by decide) ?_
  refine a_iast dX12_init_902 (fun h192 => ?_)
  refine a_dup dX12_init_903 rfl ?_
  refine a_bipush (v := 63) dX12_init_904 (by decide) ?_
  refine a_bipush (v := 101) dX12_init_906 (by decide) ?_
  refine a_iast dX12_init_908 (fun h193 => ?_)
  refine a_dup dX12_init_909 rfl ?_
  refine a_bipush (v := 64) dX12_init_910 (by decide) ?_
  refine a_bipush (v := 110) dX12_init_912 (by decide) ?_
  refine a_iast dX12_init_914 (fun h194 => ?_)
  refine a_dup dX12_init_915 rfl ?_
  refine a_bipush (v := 65) dX12_init_916 (by decide) ?_
  refine a_bipush (v := 32) dX12_init_918 (by decide) ?_
  refine a_iast dX12_init_920 (fun h195 => ?_)
  refine a_dup dX12_init_921 rfl ?_
  refine a_bipush (v := 66) dX12_init_922 (by decide) ?_
  refine a_iconst (v := 0) dX12_init_924 (by decide) ?_
  refine a_iast dX12_init_925 (fun h196 => ?_)
  refine a_dup dX12_init_926 rfl ?_
  refine a_bipush (v := 67) dX12_init_927 (by decide) ?_
  refine a_bipush (v := 119) dX12_init_929 (by decide) ?_
  refine a_iast dX12_init_931 (fun h197 => ?_)
  refine a_dup dX12_init_932 rfl ?_
  refine a_bipush (v := 68) dX12_init_933 (by decide) ?_
  refine a_bipush (v := 101) dX12_init_935 (by decide) ?_
  refine a_iast dX12_init_937 (fun h198 => ?_)
  refine a_dup dX12_init_938 rfl ?_
  refine a_bipush (v := 69) dX12_init_939 (by decide) ?_
  refine a_bipush (v := 101) dX12_init_941 (by decide) ?_
  refine a_iast dX12_init_943 (fun h199 => ?_)
  refine a_dup dX12_init_944 rfl ?_
  refine a_bipush (v := 70) dX12_init_945 (by decide) ?_
  refine a_bipush (v := 107) dX12_init_947 (by decide) ?_
  refine a_iast dX12_init_949 (fun h200 => ?_)
  refine a_dup dX12_init_950 rfl ?_
  refine a_bipush (v := 71) dX12_init_951 (by decide) ?_
  refine a_bipush (v := 32) dX12_init_953 (by decide) ?_
  refine a_iast dX12_init_955 (fun h201 => ?_)
  refine a_dup dX12_init_956 rfl ?_
  refine a_bipush (v := 72) dX12_init_957 (by decide) ?_
  refine a_iconst (v := 0) dX12_init_959 (by decide) ?_
  refine a_iast dX12_init_960 (fun h202 => ?_)
  refine a_dup dX12_init_961 rfl ?_
  refine a_bipush (v := 73) dX12_init_962 (by decide) ?_
  refine a_bipush (v := 32) dX12_init_964 (by decide) ?_
  refine a_iast dX12_init_966 (fun h203 => ?_)
  refine a_dup dX12_init_967 rfl ?_
  refine a_bipush (v := 74) dX12_init_968 (by decide) ?_
  refine a_bipush (v := 97) dX12_init_970 (by decide) ?_
  refine a_iast dX12_init_972 (fun h204 => ?_)
  refine a_dup dX12_init_973 rfl ?_
  refine a_bipush (v := 75) dX12_init_974 (by decide) ?_
  refine a_bipush (v := 110) dX12_init_976 (by decide) ?_
  refine a_iast dX12_init_978 (fun h205 => ?_)
  refine a_dup dX12_init_979 rfl ?_
  refine a_bipush (v := 76) dX12_init_980 (by decide) ?_
  refine a_bipush (v := 100) dX12_init_982 (by decide) ?_
  refine a_iast dX12_init_984 (fun h206 => ?_)
  refine a_dup dX12_init_985 rfl ?_
  refine a_bipush (v := 77) dX12_init_986 (by decide) ?_
  refine a_bipush (v := 32) dX12_init_988 (by decide) ?_
  refine a_iast dX12_init_990 (fun h207 => ?_)
  refine a_dup dX12_init_991 rfl ?_
  refine a_bipush (v := 78) dX12_init_992 (by decide) ?_
  refine a_iconst (v := 0) dX12_init_994 (by decide) ?_
  refine a_iast dX12_init_995 (fun h208 => ?_)
  refine a_putrF kc13 71 dX12_init_996 (by decide) rfl w_fieldLink_RainCoverModel_185 (fun _ => ⟨rfl, rfl⟩) rfl rfl rfl (fun h209 => ?_)
  refine a_aload_n dX12_init_999 rfl 0 rfl ?_
  refine a_bipush (v := 12) dX12_init_1000 (by decide) ?_
  refine a_puti kc13 73 dX12_init_1002 (by decide) rfl w_fieldLink_RainCoverModel_188 rfl rfl (fun h210 => ?_)
  refine a_aload_n dX12_init_1005 rfl 0 rfl ?_
  refine a_bipush (v := 16) dX12_init_1006 (by decide) ?_
  refine a_newa_int (r := (p0 + 74)) [p0, p0] rfl dX12_init_1008 w_arrayClass_int (by decide) (by decide) (fun h211 => ?_)
  refine a_widen 58 9333 (by decide) (by decide) ?_
  refine a_putrF kc13 74 dX12_init_1010 (by decide) rfl w_fieldLink_RainCoverModel_191 (fun _ => ⟨rfl, rfl⟩) rfl rfl rfl (fun h212 => ?_)
  refine a_aload_n dX12_init_1013 rfl 0 rfl ?_
  refine a_bipush (v := 16) dX12_init_1014 (by decide) ?_
  refine a_newa_int (r := (p0 + 75)) [p0, p0] rfl dX12_init_1016 w_arrayClass_int (by decide) (by decide) (fun h213 => ?_)
  refine a_widen 59 9349 (by decide) (by decide) ?_
  refine a_putrF kc13 75 dX12_init_1018 (by decide) rfl w_fieldLink_RainCoverModel_194 (fun _ => ⟨rfl, rfl⟩) rfl rfl rfl (fun h214 => ?_)
  refine a_aload_n dX12_init_1021 rfl 0 rfl ?_
  refine a_bipush (v := 40) dX12_init_1022 (by decide) ?_
  refine a_newa_int (r := (p0 + 76)) [p0, p0] rfl dX12_init_1024 w_arrayClass_int (by decide) (by decide) (fun h215 => ?_)
  refine a_widen 60 9389 (by decide) (by decide) ?_
  refine a_putrF kc13 76 dX12_init_1026 (by decide) rfl w_fieldLink_RainCoverModel_197 (fun _ => ⟨rfl, rfl⟩) rfl rfl rfl (fun h216 => ?_)
  refine a_aload_n dX12_init_1029 rfl 0 rfl ?_
  refine a_iconst (v := 0) dX12_init_1030 (by decide) ?_
  refine a_cV_Sv (r := p0) (ci := 13) (as := [.int 0]) (st := []) dX12_init_1031 (c_X12_clears l g h216 N p0 0) rfl km_X12_clears (hm_X12_clears) rfl (by decide) rfl (fun _ ee => g_X12_clears ee) w_methodLink_RainCoverModel_200 w_instanceMethod_RainCoverModel_clears__I_V w_selects_RainCoverModel_RainCoverModel_clears__I_V_RainCoverModel_clears__I_V ⟨⟨by decide, by decide⟩, ⟨by decide, by decide⟩⟩ (Nat.le_of_ble_eq_true rfl) (fun q217 => ?_)
  exact a_vret dX12_init_1034 rfl rfl (by decide) (by decide)
