theorem dJxa1e45_init_da8c8_0 : decode cJxa1e45_init_da8c8 0 = .ok (.aload_n 0, 1) := by decide +kernel
theorem dJxa1e45_init_da8c8_1 : decode cJxa1e45_init_da8c8 1 = .ok (.invokespecial 1, 3) := by decide +kernel
theorem dJxa1e45_init_da8c8_4 : decode cJxa1e45_init_da8c8 4 = .ok (.return_, 1) := by decide +kernel
abbrev M_Jxa1e45_init_da8c8 : MI := (RJxa1e45, cJxa1e45_init_da8c8, 1, none, ({ frames := 1, cells := 0, slots := 0, locals := 20 } : Room), 0, 0, true)
def f_Jxa1e45_init_da8c8 (h : AH) (p0 : Nat) : Option Unit := if kd h p0 = 0 + 1 then some () else none
theorem g_Jxa1e45_init_da8c8 {h : AH} {p0 : Nat} {x : Unit} (e : f_Jxa1e45_init_da8c8 h p0 = some x) : kd h p0 = 0 + 1 := by
  unfold f_Jxa1e45_init_da8c8 at e
  by_cases hk : kd h p0 = 0 + 1
  · exact hk
  · rw [if_neg hk] at e
    cases e
theorem km_Jxa1e45_init_da8c8 : KM yJxa1e45_init_da8c8 M_Jxa1e45_init_da8c8 0 := ⟨in_tb 45 (by decide +kernel) rfl, in_tb 2 (by decide +kernel) rfl, by decide +kernel, rfl, rfl⟩
theorem hm_Jxa1e45_init_da8c8 : M_Jxa1e45_init_da8c8.2.2.2.2.2.1 = 0 ∧ M_Jxa1e45_init_da8c8.2.2.2.2.2.2.1 = 0 := ⟨rfl, rfl⟩
section
variable {l : Launch} {g : GG}
end
set_option maxRecDepth 100000 in
set_option maxHeartbeats 4000000 in
theorem c_Jxa1e45_init_da8c8 (l : Launch) (g : GG) (h : AH) (p0 : Nat) : CN l g yJxa1e45_init_da8c8 M_Jxa1e45_init_da8c8 false [.ref p0] h ((rPv h)) (f_Jxa1e45_init_da8c8 h p0) := by
  refine CN.of (by decide) rfl (fun hh => by first | rfl | cases hh) (Nat.le_of_ble_eq_true rfl) ?_
  unfold f_Jxa1e45_init_da8c8
  refine a_gd (fun hkd => ?_)
  refine a_aload_n dJxa1e45_init_da8c8_0 rfl 0 rfl ?_
  refine a_objI dJxa1e45_init_da8c8_1 w_methodLink_java_util_AbstractCollection_1 w_instanceMethod_java_lang_Object__init____V w_code_java_lang_Object__init____V (by decide) (by decide) (Nat.le_of_ble_eq_true rfl) ?_
  exact a_vret dJxa1e45_init_da8c8_4 rfl rfl (by decide) (by decide)
theorem dJxc12de_init_da8c8_0 : decode cJxc12de_init_da8c8 0 = .ok (.aload_n 0, 1) := by decide +kernel
theorem dJxc12de_init_da8c8_1 : decode cJxc12de_init_da8c8 1 = .ok (.invokespecial 1, 3) := by decide +kernel
theorem dJxc12de_init_da8c8_4 : decode cJxc12de_init_da8c8 4 = .ok (.aload_n 0, 1) := by decide +kernel
theorem dJxc12de_init_da8c8_5 : decode cJxc12de_init_da8c8 5 = .ok (.iconst 0, 1) := by decide +kernel
theorem dJxc12de_init_da8c8_6 : decode cJxc12de_init_da8c8 6 = .ok (.putfield 7, 3) := by decide +kernel
theorem dJxc12de_init_da8c8_9 : decode cJxc12de_init_da8c8 9 = .ok (.return_, 1) := by decide +kernel
abbrev M_Jxc12de_init_da8c8 : MI := (RJxc12de, cJxc12de_init_da8c8, 1, none, ({ frames := 2, cells := 0, slots := 0, locals := 40 } : Room), 0, 0, true)
def f_Jxc12de_init_da8c8 (h0 : AH) (p0 : Nat) : Option AH := if kd h0 p0 = 0 + 1 then (f_Jxa1e45_init_da8c8 h0 p0).bind fun v1 => (xpi h0 p0 0 0 0).bind fun h2 => some h2 else none
theorem g_Jxc12de_init_da8c8 {h0 : AH} {p0 : Nat} {x : AH} (e : f_Jxc12de_init_da8c8 h0 p0 = some x) : kd h0 p0 = 0 + 1 := by
  unfold f_Jxc12de_init_da8c8 at e
  by_cases hk : kd h0 p0 = 0 + 1
  · exact hk
  · rw [if_neg hk] at e
    cases e
theorem km_Jxc12de_init_da8c8 : KM yJxc12de_init_da8c8 M_Jxc12de_init_da8c8 0 := ⟨in_tb 42 (by decide +kernel) rfl, in_tb 3 (by decide +kernel) rfl, by decide +kernel, rfl, rfl⟩
theorem hm_Jxc12de_init_da8c8 : M_Jxc12de_init_da8c8.2.2.2.2.2.1 = 0 ∧ M_Jxc12de_init_da8c8.2.2.2.2.2.2.1 = 0 := ⟨rfl, rfl⟩
section
variable {l : Launch} {g : GG}
end
set_option maxRecDepth 100000 in
set_option maxHeartbeats 4000000 in
theorem c_Jxc12de_init_da8c8 (l : Launch) (g : GG) (h0 : AH) (p0 : Nat) : CN l g yJxc12de_init_da8c8 M_Jxc12de_init_da8c8 false [.ref p0] h0 rSv (f_Jxc12de_init_da8c8 h0 p0) := by
  refine CN.of (by decide) rfl (fun hh => by first | rfl | cases hh) (Nat.le_of_ble_eq_true rfl) ?_
  unfold f_Jxc12de_init_da8c8
  refine a_gd (fun hkd => ?_)
  refine a_aload_n dJxc12de_init_da8c8_0 rfl 0 rfl ?_
  refine a_cI_Pv (r := p0) (as := []) (st := []) dJxc12de_init_da8c8_1 (c_Jxa1e45_init_da8c8 l g h0 p0) rfl km_Jxa1e45_init_da8c8 (hm_Jxa1e45_init_da8c8) rfl rfl w_methodLink_java_util_AbstractList_1 w_instanceMethod_java_util_AbstractCollection__init____V ⟨⟨by decide, by decide⟩, ⟨by decide, by decide⟩⟩ (Nat.le_of_ble_eq_true rfl) (fun v1 => ?_)
  refine a_aload_n dJxc12de_init_da8c8_4 rfl 0 rfl ?_
  refine a_iconst (v := 0) dJxc12de_init_da8c8_5 (by decide) ?_
  refine a_puti kc0 0 dJxc12de_init_da8c8_6 (by decide) rfl w_fieldLink_java_util_AbstractList_7 rfl rfl (fun h2 => ?_)
  exact a_vret dJxc12de_init_da8c8_9 rfl rfl (by decide) (by decide)
theorem dJx4a65c_init_da8c8_0 : decode cJx4a65c_init_da8c8 0 = .ok (.aload_n 0, 1) := by decide +kernel
theorem dJx4a65c_init_da8c8_1 : decode cJx4a65c_init_da8c8 1 = .ok (.invokespecial 1, 3) := by decide +kernel
theorem dJx4a65c_init_da8c8_4 : decode cJx4a65c_init_da8c8 4 = .ok (.aload_n 0, 1) := by decide +kernel
theorem dJx4a65c_init_da8c8_5 : decode cJx4a65c_init_da8c8 5 = .ok (.getstatic 39, 3) := by decide +kernel
theorem dJx4a65c_init_da8c8_8 : decode cJx4a65c_init_da8c8 8 = .ok (.putfield 9, 3) := by decide +kernel
theorem dJx4a65c_init_da8c8_11 : decode cJx4a65c_init_da8c8 11 = .ok (.return_, 1) := by decide +kernel
abbrev M_Jx4a65c_init_da8c8 : MI := (RJx4a65c, cJx4a65c_init_da8c8, 1, none, ({ frames := 3, cells := 0, slots := 0, locals := 60 } : Room), 0, 0, true)
def f_Jx4a65c_init_da8c8 (h0 : AH) (p0 : Nat) : Option AH := if kd h0 p0 = 0 + 1 then (f_Jxc12de_init_da8c8 h0 p0).bind fun q1 => (xpr q1 p0 0 1 9200).bind fun h2 => some h2 else none
theorem g_Jx4a65c_init_da8c8 {h0 : AH} {p0 : Nat} {x : AH} (e : f_Jx4a65c_init_da8c8 h0 p0 = some x) : kd h0 p0 = 0 + 1 := by
  unfold f_Jx4a65c_init_da8c8 at e
  by_cases hk : kd h0 p0 = 0 + 1
  · exact hk
  · rw [if_neg hk] at e
    cases e
theorem km_Jx4a65c_init_da8c8 : KM yJx4a65c_init_da8c8 M_Jx4a65c_init_da8c8 0 := ⟨in_tb 39 (by decide +kernel) rfl, in_tb 4 (by decide +kernel) rfl, by decide +kernel, rfl, rfl⟩
theorem hm_Jx4a65c_init_da8c8 : M_Jx4a65c_init_da8c8.2.2.2.2.2.1 = 0 ∧ M_Jx4a65c_init_da8c8.2.2.2.2.2.2.1 = 0 := ⟨rfl, rfl⟩
section
variable {l : Launch} {g : GG}
end
set_option maxRecDepth 100000 in
set_option maxHeartbeats 4000000 in
theorem c_Jx4a65c_init_da8c8 (l : Launch) (g : GG) (h0 : AH) (p0 : Nat) : CN l g yJx4a65c_init_da8c8 M_Jx4a65c_init_da8c8 false [.ref p0] h0 rSv (f_Jx4a65c_init_da8c8 h0 p0) := by
  refine CN.of (by decide) rfl (fun hh => by first | rfl | cases hh) (Nat.le_of_ble_eq_true rfl) ?_
  unfold f_Jx4a65c_init_da8c8
  refine a_gd (fun hkd => ?_)
  refine a_aload_n dJx4a65c_init_da8c8_0 rfl 0 rfl ?_
  refine a_cI_Sv (r := p0) (as := []) (st := []) dJx4a65c_init_da8c8_1 (c_Jxc12de_init_da8c8 l g h0 p0) rfl km_Jxc12de_init_da8c8 (hm_Jxc12de_init_da8c8) rfl rfl w_methodLink_java_util_ArrayList_1 w_instanceMethod_java_util_AbstractList__init____V ⟨⟨by decide, by decide⟩, ⟨by decide, by decide⟩⟩ (Nat.le_of_ble_eq_true rfl) (fun q1 => ?_)
  refine a_aload_n dJx4a65c_init_da8c8_4 rfl 0 rfl ?_
  refine a_gs3 dJx4a65c_init_da8c8_5 w_fieldLink_java_util_ArrayList_39 ?_
  refine a_putr kc0 1 dJx4a65c_init_da8c8_8 (by decide) rfl w_fieldLink_java_util_ArrayList_9 (fun _ => ⟨rfl, rfl⟩) rfl (fun h2 => ?_)
  exact a_vret dJx4a65c_init_da8c8_11 rfl rfl (by decide) (by decide)
theorem dX9_init_0 : decode cX9_init 0 = .ok (.aload_n 0, 1) := by decide +kernel
theorem dX9_init_1 : decode cX9_init 1 = .ok (.invokespecial 3, 3) := by decide +kernel
theorem dX9_init_4 : decode cX9_init 4 = .ok (.aload_n 0, 1) := by decide +kernel
theorem dX9_init_5 : decode cX9_init 5 = .ok (.sipush 2304, 3) := by decide +kernel
theorem dX9_init_8 : decode cX9_init 8 = .ok (.newarray .int, 2) := by decide +kernel
theorem dX9_init_10 : decode cX9_init 10 = .ok (.putfield 9, 3) := by decide +kernel
theorem dX9_init_13 : decode cX9_init 13 = .ok (.aload_n 0, 1) := by decide +kernel
theorem dX9_init_14 : decode cX9_init 14 = .ok (.sipush 701, 3) := by decide +kernel
theorem dX9_init_17 : decode cX9_init 17 = .ok (.newarray .int, 2) := by decide +kernel
theorem dX9_init_19 : decode cX9_init 19 = .ok (.putfield 15, 3) := by decide +kernel
theorem dX9_init_22 : decode cX9_init 22 = .ok (.aload_n 0, 1) := by decide +kernel
theorem dX9_init_23 : decode cX9_init 23 = .ok (.sipush 701, 3) := by decide +kernel
theorem dX9_init_26 : decode cX9_init 26 = .ok (.newarray .int, 2) := by decide +kernel
theorem dX9_init_28 : decode cX9_init 28 = .ok (.putfield 18, 3) := by decide +kernel
theorem dX9_init_31 : decode cX9_init 31 = .ok (.aload_n 0, 1) := by decide +kernel
theorem dX9_init_32 : decode cX9_init 32 = .ok (.iconst 0, 1) := by decide +kernel
theorem dX9_init_33 : decode cX9_init 33 = .ok (.putfield 21, 3) := by decide +kernel
theorem dX9_init_36 : decode cX9_init 36 = .ok (.return_, 1) := by decide +kernel
abbrev M_X9_init : MI := (RX9, cX9_init, 1, none, ({ frames := 1, cells := 3, slots := 3706, locals := 20 } : Room), 3, 3706, true)
def f_X9_init (h0 : AH) (p0 : Nat) : Option AH := if kd h0 p0 = 10 + 1 then (gl h0 [p0, p0]).bind fun _ => (xna h0 (p0 + 16) 0 2304).bind fun h1 => (xpr h1 p0 10 0 (p0 + 16)).bind fun h2 => (gl h2 [p0, p0]).bind fun _ => (xna h2 (p0 + 17) 0 701).bind fun h3 => (xpr h3 p0 10 1 (p0 + 17)).bind fun h4 => (gl h4 [p0, p0]).bind fun _ => (xna h4 (p0 + 18) 0 701).bind fun h5 => (xpr h5 p0 10 2 (p0 + 18)).bind fun h6 => (xpi h6 p0 10 3 0).bind fun h7 => some h7 else none
theorem g_X9_init {h0 : AH} {p0 : Nat} {x : AH} (e : f_X9_init h0 p0 = some x) : kd h0 p0 = 10 + 1 := by
  unfold f_X9_init at e
  by_cases hk : kd h0 p0 = 10 + 1
  · exact hk
  · rw [if_neg hk] at e
    cases e
theorem km_X9_init : KM yX9_init M_X9_init 0 := ⟨in_tb 65 (by decide +kernel) rfl, in_tb 5 (by decide +kernel) rfl, by decide +kernel, rfl, rfl⟩
section
variable {l : Launch} {g : GG}
end
set_option maxRecDepth 100000 in
set_option maxHeartbeats 4000000 in
theorem c_X9_init (l : Launch) (g : GG) (h0 : AH) (p0 : Nat) : CN l g yX9_init M_X9_init true [.ref p0] h0 rSv (f_X9_init h0 p0) := by
  refine CN.of (by decide) rfl (fun hh => by first | rfl | cases hh) (Nat.le_of_ble_eq_true rfl) ?_
  unfold f_X9_init
  refine a_gd (fun hkd => ?_)
  refine a_aload_n dX9_init_0 rfl 0 rfl ?_
  refine a_objI dX9_init_1 w_methodLink_RainCover_Tellings_3 w_instanceMethod_java_lang_Object__init____V w_code_java_lang_Object__init____V (by decide) (by decide) (Nat.le_of_ble_eq_true rfl) ?_
  refine a_aload_n dX9_init_4 rfl 0 rfl ?_
  refine a_sipush (v := 2304) dX9_init_5 (by decide) ?_
  refine a_newa_int (r := (p0 + 16)) [p0, p0] rfl dX9_init_8 w_arrayClass_int (by decide) (by decide) (fun h1 => ?_)
  refine a_widen 1 2304 (by decide) (by decide) ?_
  refine a_putrF kc10 0 dX9_init_10 (by decide) rfl w_fieldLink_RainCover_Tellings_9 (fun _ => ⟨rfl, rfl⟩) rfl rfl rfl (fun h2 => ?_)
  refine a_aload_n dX9_init_13 rfl 0 rfl ?_
  refine a_sipush (v := 701) dX9_init_14 (by decide) ?_
  refine a_newa_int (r := (p0 + 17)) [p0, p0] rfl dX9_init_17 w_arrayClass_int (by decide) (by decide) (fun h3 => ?_)
  refine a_widen 2 3005 (by decide) (by decide) ?_
  refine a_putrF kc10 1 dX9_init_19 (by decide) rfl w_fieldLink_RainCover_Tellings_15 (fun _ => ⟨rfl, rfl⟩) rfl rfl rfl (fun h4 => ?_)
  refine a_aload_n dX9_init_22 rfl 0 rfl ?_
  refine a_sipush (v := 701) dX9_init_23 (by decide) ?_
  refine a_newa_int (r := (p0 + 18)) [p0, p0] rfl dX9_init_26 w_arrayClass_int (by decide) (by decide) (fun h5 => ?_)
  refine a_widen 3 3706 (by decide) (by decide) ?_
  refine a_putrF kc10 2 dX9_init_28 (by decide) rfl w_fieldLink_RainCover_Tellings_18 (fun _ => ⟨rfl, rfl⟩) rfl rfl rfl (fun h6 => ?_)
  refine a_aload_n dX9_init_31 rfl 0 rfl ?_
  refine a_iconst (v := 0) dX9_init_32 (by decide) ?_
  refine a_puti kc10 3 dX9_init_33 (by decide) rfl w_fieldLink_RainCover_Tellings_21 rfl rfl (fun h7 => ?_)
  exact a_vret dX9_init_36 rfl rfl (by decide) (by decide)
theorem dX8_init_0 : decode cX8_init 0 = .ok (.aload_n 0, 1) := by decide +kernel
theorem dX8_init_1 : decode cX8_init 1 = .ok (.invokespecial 1, 3) := by decide +kernel
theorem dX8_init_4 : decode cX8_init 4 = .ok (.aload_n 0, 1) := by decide +kernel
theorem dX8_init_5 : decode cX8_init 5 = .ok (.bipush 100, 2) := by decide +kernel
theorem dX8_init_7 : decode cX8_init 7 = .ok (.newarray .byte, 2) := by decide +kernel
theorem dX8_init_9 : decode cX8_init 9 = .ok (.putfield 9, 3) := by decide +kernel
theorem dX8_init_12 : decode cX8_init 12 = .ok (.aload_n 0, 1) := by decide +kernel
theorem dX8_init_13 : decode cX8_init 13 = .ok (.iconst 0, 1) := by decide +kernel
theorem dX8_init_14 : decode cX8_init 14 = .ok (.putfield 13, 3) := by decide +kernel
theorem dX8_init_17 : decode cX8_init 17 = .ok (.aload_n 0, 1) := by decide +kernel
theorem dX8_init_18 : decode cX8_init 18 = .ok (.iconst 0, 1) := by decide +kernel
theorem dX8_init_19 : decode cX8_init 19 = .ok (.putfield 17, 3) := by decide +kernel
theorem dX8_init_22 : decode cX8_init 22 = .ok (.aload_n 0, 1) := by decide +kernel
theorem dX8_init_23 : decode cX8_init 23 = .ok (.iconst 0, 1) := by decide +kernel
theorem dX8_init_24 : decode cX8_init 24 = .ok (.putfield 20, 3) := by decide +kernel
theorem dX8_init_27 : decode cX8_init 27 = .ok (.return_, 1) := by decide +kernel
abbrev M_X8_init : MI := (RX8, cX8_init, 1, none, ({ frames := 1, cells := 1, slots := 100, locals := 20 } : Room), 1, 100, true)
def f_X8_init (h0 : AH) (p0 : Nat) : Option AH := if kd h0 p0 = 9 + 1 then (gl h0 [p0, p0]).bind fun _ => (xna h0 (p0 + 18) 2 100).bind fun h1 => (xpr h1 p0 9 0 (p0 + 18)).bind fun h2 => (xpi h2 p0 9 1 0).bind fun h3 => (xpi h3 p0 9 2 0).bind fun h4 => (xpz h4 p0 9 3 0).bind fun h5 => some h5 else none
theorem g_X8_init {h0 : AH} {p0 : Nat} {x : AH} (e : f_X8_init h0 p0 = some x) : kd h0 p0 = 9 + 1 := by
  unfold f_X8_init at e
  by_cases hk : kd h0 p0 = 9 + 1
  · exact hk
  · rw [if_neg hk] at e
    cases e
theorem km_X8_init : KM yX8_init M_X8_init 0 := ⟨in_tb 86 (by decide +kernel) rfl, in_tb 6 (by decide +kernel) rfl, by decide +kernel, rfl, rfl⟩
section
variable {l : Launch} {g : GG}
end
set_option maxRecDepth 100000 in
set_option maxHeartbeats 4000000 in
theorem c_X8_init (l : Launch) (g : GG) (h0 : AH) (p0 : Nat) : CN l g yX8_init M_X8_init true [.ref p0] h0 rSv (f_X8_init h0 p0) := by
  refine CN.of (by decide) rfl (fun hh => by first | rfl | cases hh) (Nat.le_of_ble_eq_true rfl) ?_
  unfold f_X8_init
  refine a_gd (fun hkd => ?_)
  refine a_aload_n dX8_init_0 rfl 0 rfl ?_
  refine a_objI dX8_init_1 w_methodLink_RainCover_Tape_1 w_instanceMethod_java_lang_Object__init____V w_code_java_lang_Object__init____V (by decide) (by decide) (Nat.le_of_ble_eq_true rfl) ?_
  refine a_aload_n dX8_init_4 rfl 0 rfl ?_
  refine a_bipush (v := 100) dX8_init_5 (by decide) ?_
  refine a_newa_byte (r := (p0 + 18)) [p0, p0] rfl dX8_init_7 w_arrayClass_byte (by decide) (by decide) (fun h1 => ?_)
  refine a_widen 1 100 (by decide) (by decide) ?_
  refine a_putrF kc9 0 dX8_init_9 (by decide) rfl w_fieldLink_RainCover_Tape_9 (fun _ => ⟨rfl, rfl⟩) rfl rfl rfl (fun h2 => ?_)
  refine a_aload_n dX8_init_12 rfl 0 rfl ?_
  refine a_iconst (v := 0) dX8_init_13 (by decide) ?_
  refine a_puti kc9 1 dX8_init_14 (by decide) rfl w_fieldLink_RainCover_Tape_13 rfl rfl (fun h3 => ?_)
  refine a_aload_n dX8_init_17 rfl 0 rfl ?_
  refine a_iconst (v := 0) dX8_init_18 (by decide) ?_
  refine a_puti kc9 2 dX8_init_19 (by decide) rfl w_fieldLink_RainCover_Tape_17 rfl rfl (fun h4 => ?_)
  refine a_aload_n dX8_init_22 rfl 0 rfl ?_
  refine a_iconst (v := 0) dX8_init_23 (by decide) ?_
  refine a_putz kc9 3 dX8_init_24 (by decide) rfl w_fieldLink_RainCover_Tape_20 rfl rfl (fun h5 => ?_)
  exact a_vret dX8_init_27 rfl rfl (by decide) (by decide)
theorem dX7_init_0 : decode cX7_init 0 = .ok (.aload_n 0, 1) := by decide +kernel
theorem dX7_init_1 : decode cX7_init 1 = .ok (.invokespecial 3, 3) := by decide +kernel
theorem dX7_init_4 : decode cX7_init 4 = .ok (.aload_n 0, 1) := by decide +kernel
theorem dX7_init_5 : decode cX7_init 5 = .ok (.iconst 0, 1) := by decide +kernel
theorem dX7_init_6 : decode cX7_init 6 = .ok (.putfield 9, 3) := by decide +kernel
theorem dX7_init_9 : decode cX7_init 9 = .ok (.aload_n 0, 1) := by decide +kernel
theorem dX7_init_10 : decode cX7_init 10 = .ok (.iload_n 1, 1) := by decide +kernel
theorem dX7_init_11 : decode cX7_init 11 = .ok (.putfield 15, 3) := by decide +kernel
theorem dX7_init_14 : decode cX7_init 14 = .ok (.aload_n 0, 1) := by decide +kernel
theorem dX7_init_15 : decode cX7_init 15 = .ok (.iload_n 2, 1) := by decide +kernel
theorem dX7_init_16 : decode cX7_init 16 = .ok (.putfield 18, 3) := by decide +kernel
theorem dX7_init_19 : decode cX7_init 19 = .ok (.aload_n 0, 1) := by decide +kernel
theorem dX7_init_20 : decode cX7_init 20 = .ok (.iload_n 1, 1) := by decide +kernel
theorem dX7_init_21 : decode cX7_init 21 = .ok (.iload_n 2, 1) := by decide +kernel
theorem dX7_init_22 : decode cX7_init 22 = .ok (.imul, 1) := by decide +kernel
theorem dX7_init_23 : decode cX7_init 23 = .ok (.newarray .int, 2) := by decide +kernel
theorem dX7_init_25 : decode cX7_init 25 = .ok (.putfield 21, 3) := by decide +kernel
theorem dX7_init_28 : decode cX7_init 28 = .ok (.return_, 1) := by decide +kernel
abbrev M_X7_init : MI := (RX7, cX7_init, 3, none, ({ frames := 1, cells := 1, slots := 1000, locals := 20 } : Room), 1, 1000, true)
def f_X7_init (h0 : AH) (p0 : Nat) (p1 : Int32) (p2 : Int32) : Option AH := if kd h0 p0 = 8 + 1 then (xpi h0 p0 8 3 0).bind fun h1 => (xpi h1 p0 8 0 p1).bind fun h2 => (xpi h2 p0 8 1 p2).bind fun h3 => (if ((p1 * p2) : Int32).toNatClampNeg ≤ 1000 then (gl h3 [p0, p0]).bind fun _ => (xna h3 (p0 + 16) 0 (p1 * p2)).bind fun h4 => (xpr h4 p0 8 2 (p0 + 16)).bind fun h6 => some h6 else none) else none
theorem g_X7_init {h0 : AH} {p0 : Nat} {p1 : Int32} {p2 : Int32} {x : AH} (e : f_X7_init h0 p0 p1 p2 = some x) : kd h0 p0 = 8 + 1 := by
  unfold f_X7_init at e
  by_cases hk : kd h0 p0 = 8 + 1
  · exact hk
  · rw [if_neg hk] at e
    cases e
theorem km_X7_init : KM yX7_init M_X7_init 2 := ⟨in_tb 108 (by decide +kernel) rfl, in_tb 7 (by decide +kernel) rfl, by decide +kernel, rfl, rfl⟩
section
variable {l : Launch} {g : GG}
end
set_option maxRecDepth 100000 in
set_option maxHeartbeats 4000000 in
theorem c_X7_init (l : Launch) (g : GG) (h0 : AH) (p0 : Nat) (p1 : Int32) (p2 : Int32) : CN l g yX7_init M_X7_init true [.ref p0, .int p1, .int p2] h0 rSv (f_X7_init h0 p0 p1 p2) := by
  refine CN.of (by decide) rfl (fun hh => by first | rfl | cases hh) (Nat.le_of_ble_eq_true rfl) ?_
  unfold f_X7_init
  refine a_gd (fun hkd => ?_)
  refine a_aload_n dX7_init_0 rfl 0 rfl ?_
  refine a_objI dX7_init_1 w_methodLink_RainCover_Table_3 w_instanceMethod_java_lang_Object__init____V w_code_java_lang_Object__init____V (by decide) (by decide) (Nat.le_of_ble_eq_true rfl) ?_
  refine a_aload_n dX7_init_4 rfl 0 rfl ?_
  refine a_iconst (v := 0) dX7_init_5 (by decide) ?_
  refine a_puti kc8 3 dX7_init_6 (by decide) rfl w_fieldLink_RainCover_Table_9 rfl rfl (fun h1 => ?_)
  refine a_aload_n dX7_init_9 rfl 0 rfl ?_
  refine a_iload_n dX7_init_10 rfl 1 rfl ?_
  refine a_putiF kc8 0 dX7_init_11 (by decide) rfl w_fieldLink_RainCover_Table_15 rfl rfl rfl rfl (fun h2 => ?_)
  refine a_aload_n dX7_init_14 rfl 0 rfl ?_
  refine a_iload_n dX7_init_15 rfl 2 rfl ?_
  refine a_putiF kc8 1 dX7_init_16 (by decide) rfl w_fieldLink_RainCover_Table_18 rfl rfl rfl rfl (fun h3 => ?_)
  refine a_aload_n dX7_init_19 rfl 0 rfl ?_
  refine a_iload_n dX7_init_20 rfl 1 rfl ?_
  refine a_iload_n dX7_init_21 rfl 2 rfl ?_
  refine a_imul dX7_init_22 ?_
  refine a_gd (fun b5 => ?_)
  refine a_newa_int (r := (p0 + 16)) [p0, p0] rfl dX7_init_23 w_arrayClass_int (by decide) (Nat.le_trans (Nat.add_le_add_left b5 _) (by decide)) (fun h4 => ?_)
  refine a_widen 1 1000 (by decide) (Nat.add_le_add_left b5 _) ?_
  refine a_putrF kc8 2 dX7_init_25 (by decide) rfl w_fieldLink_RainCover_Table_21 (fun _ => ⟨rfl, rfl⟩) rfl rfl rfl (fun h6 => ?_)
  exact a_vret dX7_init_28 rfl rfl (by decide) (by decide)
theorem dX6_init_0 : decode cX6_init 0 = .ok (.aload_n 0, 1) := by decide +kernel
theorem dX6_init_1 : decode cX6_init 1 = .ok (.invokespecial 1, 3) := by decide +kernel
theorem dX6_init_4 : decode cX6_init 4 = .ok (.aload_n 0, 1) := by decide +kernel
theorem dX6_init_5 : decode cX6_init 5 = .ok (.iconst (-1), 1) := by decide +kernel
theorem dX6_init_6 : decode cX6_init 6 = .ok (.putfield 9, 3) := by decide +kernel
theorem dX6_init_9 : decode cX6_init 9 = .ok (.aload_n 0, 1) := by decide +kernel
theorem dX6_init_10 : decode cX6_init 10 = .ok (.iconst 0, 1) := by decide +kernel
theorem dX6_init_11 : decode cX6_init 11 = .ok (.putfield 13, 3) := by decide +kernel
theorem dX6_init_14 : decode cX6_init 14 = .ok (.aload_n 0, 1) := by decide +kernel
theorem dX6_init_15 : decode cX6_init 15 = .ok (.bipush 40, 2) := by decide +kernel
theorem dX6_init_17 : decode cX6_init 17 = .ok (.newarray .int, 2) := by decide +kernel
theorem dX6_init_19 : decode cX6_init 19 = .ok (.putfield 16, 3) := by decide +kernel
theorem dX6_init_22 : decode cX6_init 22 = .ok (.return_, 1) := by decide +kernel
abbrev M_X6_init : MI := (RX6, cX6_init, 1, none, ({ frames := 1, cells := 1, slots := 40, locals := 20 } : Room), 1, 40, true)
def f_X6_init (h0 : AH) (p0 : Nat) : Option AH := if kd h0 p0 = 7 + 1 then (xpi h0 p0 7 0 (-1)).bind fun h1 => (xpi h1 p0 7 1 0).bind fun h2 => (gl h2 [p0, p0]).bind fun _ => (xna h2 (p0 + 15) 0 40).bind fun h3 => (xpr h3 p0 7 2 (p0 + 15)).bind fun h4 => some h4 else none
theorem g_X6_init {h0 : AH} {p0 : Nat} {x : AH} (e : f_X6_init h0 p0 = some x) : kd h0 p0 = 7 + 1 := by
  unfold f_X6_init at e
  by_cases hk : kd h0 p0 = 7 + 1
  · exact hk
  · rw [if_neg hk] at e
    cases e
theorem km_X6_init : KM yX6_init M_X6_init 0 := ⟨in_tb 129 (by decide +kernel) rfl, in_tb 8 (by decide +kernel) rfl, by decide +kernel, rfl, rfl⟩
section
variable {l : Launch} {g : GG}
end
set_option maxRecDepth 100000 in
set_option maxHeartbeats 4000000 in
theorem c_X6_init (l : Launch) (g : GG) (h0 : AH) (p0 : Nat) : CN l g yX6_init M_X6_init true [.ref p0] h0 rSv (f_X6_init h0 p0) := by
  refine CN.of (by decide) rfl (fun hh => by first | rfl | cases hh) (Nat.le_of_ble_eq_true rfl) ?_
  unfold f_X6_init
  refine a_gd (fun hkd => ?_)
  refine a_aload_n dX6_init_0 rfl 0 rfl ?_
  refine a_objI dX6_init_1 w_methodLink_RainCover_Sheet_1 w_instanceMethod_java_lang_Object__init____V w_code_java_lang_Object__init____V (by decide) (by decide) (Nat.le_of_ble_eq_true rfl) ?_
  refine a_aload_n dX6_init_4 rfl 0 rfl ?_
  refine a_iconst (v := (-1)) dX6_init_5 (by decide) ?_
  refine a_puti kc7 0 dX6_init_6 (by decide) rfl w_fieldLink_RainCover_Sheet_9 rfl rfl (fun h1 => ?_)
  refine a_aload_n dX6_init_9 rfl 0 rfl ?_
  refine a_iconst (v := 0) dX6_init_10 (by decide) ?_
  refine a_puti kc7 1 dX6_init_11 (by decide) rfl w_fieldLink_RainCover_Sheet_13 rfl rfl (fun h2 => ?_)
  refine a_aload_n dX6_init_14 rfl 0 rfl ?_
  refine a_bipush (v := 40) dX6_init_15 (by decide) ?_
  refine a_newa_int (r := (p0 + 15)) [p0, p0] rfl dX6_init_17 w_arrayClass_int (by decide) (by decide) (fun h3 => ?_)
  refine a_widen 1 40 (by decide) (by decide) ?_
  refine a_putrF kc7 2 dX6_init_19 (by decide) rfl w_fieldLink_RainCover_Sheet_16 (fun _ => ⟨rfl, rfl⟩) rfl rfl rfl (fun h4 => ?_)
  exact a_vret dX6_init_22 rfl rfl (by decide) (by decide)
theorem dX11_init_0 : decode cX11_init 0 = .ok (.aload_n 0, 1) := by decide +kernel
theorem dX11_init_1 : decode cX11_init 1 = .ok (.invokespecial 3, 3) := by decide +kernel
theorem dX11_init_4 : decode cX11_init 4 = .ok (.aload_n 0, 1) := by decide +kernel
theorem dX11_init_5 : decode cX11_init 5 = .ok (.new 9, 3) := by decide +kernel
theorem dX11_init_8 : decode cX11_init 8 = .ok (.dup, 1) := by decide +kernel
theorem dX11_init_9 : decode cX11_init 9 = .ok (.invokespecial 11, 3) := by decide +kernel
theorem dX11_init_12 : decode cX11_init 12 = .ok (.putfield 12, 3) := by decide +kernel
theorem dX11_init_15 : decode cX11_init 15 = .ok (.aload_n 0, 1) := by decide +kernel
theorem dX11_init_16 : decode cX11_init 16 = .ok (.new 9, 3) := by decide +kernel
theorem dX11_init_19 : decode cX11_init 19 = .ok (.dup, 1) := by decide +kernel
theorem dX11_init_20 : decode cX11_init 20 = .ok (.invokespecial 11, 3) := by decide +kernel
theorem dX11_init_23 : decode cX11_init 23 = .ok (.putfield 18, 3) := by decide +kernel
theorem dX11_init_26 : decode cX11_init 26 = .ok (.aload_n 0, 1) := by decide +kernel
theorem dX11_init_27 : decode cX11_init 27 = .ok (.new 9, 3) := by decide +kernel
theorem dX11_init_30 : decode cX11_init 30 = .ok (.dup, 1) := by decide +kernel
theorem dX11_init_31 : decode cX11_init 31 = .ok (.invokespecial 11, 3) := by decide +kernel
theorem dX11_init_34 : decode cX11_init 34 = .ok (.putfield 21, 3) := by decide +kernel
theorem dX11_init_37 : decode cX11_init 37 = .ok (.aload_n 0, 1) := by decide +kernel
theorem dX11_init_38 : decode cX11_init 38 = .ok (.new 9, 3) := by decide +kernel
theorem dX11_init_41 : decode cX11_init 41 = .ok (.dup, 1) := by decide +kernel
theorem dX11_init_42 : decode cX11_init 42 = .ok (.invokespecial 11, 3) := by decide +kernel
theorem dX11_init_45 : decode cX11_init 45 = .ok (.putfield 24, 3) := by decide +kernel
theorem dX11_init_48 : decode cX11_init 48 = .ok (.aload_n 0, 1) := by decide +kernel
theorem dX11_init_49 : decode cX11_init 49 = .ok (.new 27, 3) := by decide +kernel
theorem dX11_init_52 : decode cX11_init 52 = .ok (.dup, 1) := by decide +kernel
theorem dX11_init_53 : decode cX11_init 53 = .ok (.invokespecial 29, 3) := by decide +kernel
theorem dX11_init_56 : decode cX11_init 56 = .ok (.putfield 30, 3) := by decide +kernel
theorem dX11_init_59 : decode cX11_init 59 = .ok (.aload_n 0, 1) := by decide +kernel
theorem dX11_init_60 : decode cX11_init 60 = .ok (.new 34, 3) := by decide +kernel
theorem dX11_init_63 : decode cX11_init 63 = .ok (.dup, 1) := by decide +kernel
theorem dX11_init_64 : decode cX11_init 64 = .ok (.invokespecial 36, 3) := by decide +kernel
theorem dX11_init_67 : decode cX11_init 67 = .ok (.putfield 37, 3) := by decide +kernel
theorem dX11_init_70 : decode cX11_init 70 = .ok (.aload_n 0, 1) := by decide +kernel
theorem dX11_init_71 : decode cX11_init 71 = .ok (.iconst 4, 1) := by decide +kernel
theorem dX11_init_72 : decode cX11_init 72 = .ok (.newarray .int, 2) := by decide +kernel
theorem dX11_init_74 : decode cX11_init 74 = .ok (.dup, 1) := by decide +kernel
theorem dX11_init_75 : decode cX11_init 75 = .ok (.iconst 0, 1) := by decide +kernel
theorem dX11_init_76 : decode cX11_init 76 = .ok (.bipush 40, 2) := by decide +kernel
theorem dX11_init_78 : decode cX11_init 78 = .ok (.iastore, 1) := by decide +kernel
theorem dX11_init_79 : decode cX11_init 79 = .ok (.dup, 1) := by decide +kernel
theorem dX11_init_80 : decode cX11_init 80 = .ok (.iconst 1, 1) := by decide +kernel
theorem dX11_init_81 : decode cX11_init 81 = .ok (.sipush 500, 3) := by decide +kernel
theorem dX11_init_84 : decode cX11_init 84 = .ok (.iastore, 1) := by decide +kernel
theorem dX11_init_85 : decode cX11_init 85 = .ok (.dup, 1) := by decide +kernel
theorem dX11_init_86 : decode cX11_init 86 = .ok (.iconst 2, 1) := by decide +kernel
theorem dX11_init_87 : decode cX11_init 87 = .ok (.bipush 20, 2) := by decide +kernel
theorem dX11_init_89 : decode cX11_init 89 = .ok (.iastore, 1) := by decide +kernel
theorem dX11_init_90 : decode cX11_init 90 = .ok (.dup, 1) := by decide +kernel
theorem dX11_init_91 : decode cX11_init 91 = .ok (.iconst 3, 1) := by decide +kernel
theorem dX11_init_92 : decode cX11_init 92 = .ok (.iconst 0, 1) := by decide +kernel
theorem dX11_init_93 : decode cX11_init 93 = .ok (.iastore, 1) := by decide +kernel
theorem dX11_init_94 : decode cX11_init 94 = .ok (.putfield 41, 3) := by decide +kernel
theorem dX11_init_97 : decode cX11_init 97 = .ok (.aload_n 0, 1) := by decide +kernel
theorem dX11_init_98 : decode cX11_init 98 = .ok (.iconst 4, 1) := by decide +kernel
theorem dX11_init_99 : decode cX11_init 99 = .ok (.newarray .int, 2) := by decide +kernel
theorem dX11_init_101 : decode cX11_init 101 = .ok (.putfield 45, 3) := by decide +kernel
theorem dX11_init_104 : decode cX11_init 104 = .ok (.aload_n 0, 1) := by decide +kernel
theorem dX11_init_105 : decode cX11_init 105 = .ok (.new 48, 3) := by decide +kernel
theorem dX11_init_108 : decode cX11_init 108 = .ok (.dup, 1) := by decide +kernel
theorem dX11_init_109 : decode cX11_init 109 = .ok (.bipush 60, 2) := by decide +kernel
theorem dX11_init_111 : decode cX11_init 111 = .ok (.iconst 4, 1) := by decide +kernel
theorem dX11_init_112 : decode cX11_init 112 = .ok (.invokespecial 50, 3) := by decide +kernel
theorem dX11_init_115 : decode cX11_init 115 = .ok (.putfield 53, 3) := by decide +kernel
theorem dX11_init_118 : decode cX11_init 118 = .ok (.aload_n 0, 1) := by decide +kernel
theorem dX11_init_119 : decode cX11_init 119 = .ok (.new 48, 3) := by decide +kernel
theorem dX11_init_122 : decode cX11_init 122 = .ok (.dup, 1) := by decide +kernel
theorem dX11_init_123 : decode cX11_init 123 = .ok (.bipush 80, 2) := by decide +kernel
theorem dX11_init_125 : decode cX11_init 125 = .ok (.iconst 4, 1) := by decide +kernel
theorem dX11_init_126 : decode cX11_init 126 = .ok (.invokespecial 50, 3) := by decide +kernel
theorem dX11_init_129 : decode cX11_init 129 = .ok (.putfield 57, 3) := by decide +kernel
theorem dX11_init_132 : decode cX11_init 132 = .ok (.aload_n 0, 1) := by decide +kernel
theorem dX11_init_133 : decode cX11_init 133 = .ok (.new 48, 3) := by decide +kernel
theorem dX11_init_136 : decode cX11_init 136 = .ok (.dup, 1) := by decide +kernel
theorem dX11_init_137 : decode cX11_init 137 = .ok (.sipush 200, 3) := by decide +kernel
theorem dX11_init_140 : decode cX11_init 140 = .ok (.iconst 4, 1) := by decide +kernel
theorem dX11_init_141 : decode cX11_init 141 = .ok (.invokespecial 50, 3) := by decide +kernel
theorem dX11_init_144 : decode cX11_init 144 = .ok (.putfield 60, 3) := by decide +kernel
theorem dX11_init_147 : decode cX11_init 147 = .ok (.aload_n 0, 1) := by decide +kernel
theorem dX11_init_148 : decode cX11_init 148 = .ok (.new 48, 3) := by decide +kernel
theorem dX11_init_151 : decode cX11_init 151 = .ok (.dup, 1) := by decide +kernel
theorem dX11_init_152 : decode cX11_init 152 = .ok (.bipush 20, 2) := by decide +kernel
theorem dX11_init_154 : decode cX11_init 154 = .ok (.iconst 5, 1) := by decide +kernel
theorem dX11_init_155 : decode cX11_init 155 = .ok (.invokespecial 50, 3) := by decide +kernel
theorem dX11_init_158 : decode cX11_init 158 = .ok (.putfield 63, 3) := by decide +kernel
theorem dX11_init_161 : decode cX11_init 161 = .ok (.aload_n 0, 1) := by decide +kernel
theorem dX11_init_162 : decode cX11_init 162 = .ok (.iconst 3, 1) := by decide +kernel
theorem dX11_init_163 : decode cX11_init 163 = .ok (.anewarray 66, 3) := by decide +kernel
theorem dX11_init_166 : decode cX11_init 166 = .ok (.dup, 1) := by decide +kernel
theorem dX11_init_167 : decode cX11_init 167 = .ok (.iconst 0, 1) := by decide +kernel
theorem dX11_init_168 : decode cX11_init 168 = .ok (.new 66, 3) := by decide +kernel
theorem dX11_init_171 : decode cX11_init 171 = .ok (.dup, 1) := by decide +kernel
theorem dX11_init_172 : decode cX11_init 172 = .ok (.invokespecial 68, 3) := by decide +kernel
theorem dX11_init_175 : decode cX11_init 175 = .ok (.aastore, 1) := by decide +kernel
theorem dX11_init_176 : decode cX11_init 176 = .ok (.dup, 1) := by decide +kernel
theorem dX11_init_177 : decode cX11_init 177 = .ok (.iconst 1, 1) := by decide +kernel
theorem dX11_init_178 : decode cX11_init 178 = .ok (.new 66, 3) := by decide +kernel
theorem dX11_init_181 : decode cX11_init 181 = .ok (.dup, 1) := by decide +kernel
theorem dX11_init_182 : decode cX11_init 182 = .ok (.invokespecial 68, 3) := by decide +kernel
theorem dX11_init_185 : decode cX11_init 185 = .ok (.aastore, 1) := by decide +kernel
theorem dX11_init_186 : decode cX11_init 186 = .ok (.dup, 1) := by decide +kernel
theorem dX11_init_187 : decode cX11_init 187 = .ok (.iconst 2, 1) := by decide +kernel
theorem dX11_init_188 : decode cX11_init 188 = .ok (.new 66, 3) := by decide +kernel
theorem dX11_init_191 : decode cX11_init 191 = .ok (.dup, 1) := by decide +kernel
theorem dX11_init_192 : decode cX11_init 192 = .ok (.invokespecial 68, 3) := by decide +kernel
theorem dX11_init_195 : decode cX11_init 195 = .ok (.aastore, 1) := by decide +kernel
theorem dX11_init_196 : decode cX11_init 196 = .ok (.putfield 69, 3) := by decide +kernel
theorem dX11_init_199 : decode cX11_init 199 = .ok (.aload_n 0, 1) := by decide +kernel
theorem dX11_init_200 : decode cX11_init 200 = .ok (.iconst 0, 1) := by decide +kernel
theorem dX11_init_201 : decode cX11_init 201 = .ok (.putfield 73, 3) := by decide +kernel
theorem dX11_init_204 : decode cX11_init 204 = .ok (.aload_n 0, 1) := by decide +kernel
theorem dX11_init_205 : decode cX11_init 205 = .ok (.iconst 1, 1) := by decide +kernel
theorem dX11_init_206 : decode cX11_init 206 = .ok (.putfield 77, 3) := by decide +kernel
theorem dX11_init_209 : decode cX11_init 209 = .ok (.aload_n 0, 1) := by decide +kernel
theorem dX11_init_210 : decode cX11_init 210 = .ok (.aconst_null, 1) := by decide +kernel
theorem dX11_init_211 : decode cX11_init 211 = .ok (.putfield 80, 3) := by decide +kernel
theorem dX11_init_214 : decode cX11_init 214 = .ok (.aload_n 0, 1) := by decide +kernel
theorem dX11_init_215 : decode cX11_init 215 = .ok (.bipush 12, 2) := by decide +kernel
theorem dX11_init_217 : decode cX11_init 217 = .ok (.newarray .int, 2) := by decide +kernel
theorem dX11_init_219 : decode cX11_init 219 = .ok (.putfield 84, 3) := by decide +kernel
theorem dX11_init_222 : decode cX11_init 222 = .ok (.aload_n 0, 1) := by decide +kernel
theorem dX11_init_223 : decode cX11_init 223 = .ok (.bipush 12, 2) := by decide +kernel
theorem dX11_init_225 : decode cX11_init 225 = .ok (.newarray .int, 2) := by decide +kernel
theorem dX11_init_227 : decode cX11_init 227 = .ok (.putfield 87, 3) := by decide +kernel
theorem dX11_init_230 : decode cX11_init 230 = .ok (.aload_n 0, 1) := by decide +kernel
theorem dX11_init_231 : decode cX11_init 231 = .ok (.bipush 16, 2) := by decide +kernel
theorem dX11_init_233 : decode cX11_init 233 = .ok (.newarray .int, 2) := by decide +kernel
theorem dX11_init_235 : decode cX11_init 235 = .ok (.putfield 90, 3) := by decide +kernel
theorem dX11_init_238 : decode cX11_init 238 = .ok (.aload_n 0, 1) := by decide +kernel
theorem dX11_init_239 : decode cX11_init 239 = .ok (.bipush 24, 2) := by decide +kernel
theorem dX11_init_241 : decode cX11_init 241 = .ok (.newarray .int, 2) := by decide +kernel
theorem dX11_init_243 : decode cX11_init 243 = .ok (.putfield 93, 3) := by decide +kernel
theorem dX11_init_246 : decode cX11_init 246 = .ok (.return_, 1) := by decide +kernel
abbrev M_X11_init : MI := (RX11, cX11_init, 1, none, ({ frames := 4, cells := 31, slots := 8046, locals := 80 } : Room), 31, 8046, true)
def f_X11_init (h0 : AH) (p0 : Nat) : Option AH := if kd h0 p0 = 12 + 1 then (gl h0 [p0, p0]).bind fun _ => (xnw h0 10 0).bind fun h1 => (f_Jx4a65c_init_da8c8 h1 10).bind fun q2 => (xpr q2 p0 12 0 10).bind fun h3 => (gl h3 [p0, p0]).bind fun _ => (xnw h3 11 0).bind fun h4 => (f_Jx4a65c_init_da8c8 h4 11).bind fun q5 => (xpr q5 p0 12 1 11).bind fun h6 => (gl h6 [p0, p0]).bind fun _ => (xnw h6 12 0).bind fun h7 => (f_Jx4a65c_init_da8c8 h7 12).bind fun q8 => (xpr q8 p0 12 2 12).bind fun h9 => (gl h9 [p0, p0]).bind fun _ => (xnw h9 13 0).bind fun h10 => (f_Jx4a65c_init_da8c8 h10 13).bind fun q11 => (xpr q11 p0 12 3 13).bind fun h12 => (gl h12 [p0, p0]).bind fun _ => (xnw h12 14 10).bind fun h13 => (gl h13 [p0, 14, p0]).bind fun _ => (f_X9_init h13 14).bind fun q14 => (xpr q14 p0 12 4 14).bind fun h15 => (gl h15 [p0, p0]).bind fun _ => (xnw h15 15 9).bind fun h16 => (gl h16 [p0, 15, p0]).bind fun _ => (f_X8_init h16 15).bind fun q17 => (xpr q17 p0 12 5 15).bind fun h18 => (gl h18 [p0, p0]).bind fun _ => (xna h18 16 0 4).bind fun h19 => (xis h19 16 0 40).bind fun h20 => (xis h20 16 1 500).bind fun h21 => (xis h21 16 2 20).bind fun h22 => (xis h22 16 3 0).bind fun h23 => (xpr h23 p0 12 6 16).bind fun h24 => (gl h24 [p0, p0]).bind fun _ => (xna h24 17 0 4).bind fun h25 => (xpr h25 p0 12 7 17).bind fun h26 => (gl h26 [p0, p0]).bind fun _ => (xnw h26 18 8).bind fun h27 => (gl h27 [p0, 18, p0]).bind fun _ => (f_X7_init h27 18 60 4).bind fun q28 => (xpr q28 p0 12 8 18).bind fun h29 => (gl h29 [p0, p0]).bind fun _ => (xnw h29 19 8).bind fun h30 => (gl h30 [p0, 19, p0]).bind fun _ => (f_X7_init h30 19 80 4).bind fun q31 => (xpr q31 p0 12 9 19).bind fun h32 => (gl h32 [p0, p0]).bind fun _ => (xnw h32 20 8).bind fun h33 => (gl h33 [p0, 20, p0]).bind fun _ => (f_X7_init h33 20 200 4).bind fun q34 => (xpr q34 p0 12 10 20).bind fun h35 => (gl h35 [p0, p0]).bind fun _ => (xnw h35 21 8).bind fun h36 => (gl h36 [p0, 21, p0]).bind fun _ => (f_X7_init h36 21 20 5).bind fun q37 => (xpr q37 p0 12 11 21).bind fun h38 => (gl h38 [p0, p0]).bind fun _ => (xna h38 22 4 3).bind fun h39 => (gl h39 [p0, 22, 22, p0]).bind fun _ => (xnw h39 23 7).bind fun h40 => (gl h40 [p0, 23, 22, 22, p0]).bind fun _ => (f_X6_init h40 23).bind fun q41 => (xas q41 22 0 23).bind fun h42 => (gl h42 [p0, 22, 22, p0]).bind fun _ => (xnw h42 24 7).bind fun h43 => (gl h43 [p0, 24, 22, 22, p0]).bind fun _ => (f_X6_init h43 24).bind fun q44 => (xas q44 22 1 24).bind fun h45 => (gl h45 [p0, 22, 22, p0]).bind fun _ => (xnw h45 25 7).bind fun h46 => (gl h46 [p0, 25, 22, 22, p0]).bind fun _ => (f_X6_init h46 25).bind fun q47 => (xas q47 22 2 25).bind fun h48 => (xpr h48 p0 12 12 22).bind fun h49 => (xpi h49 p0 12 13 0).bind fun h50 => (xpi h50 p0 12 14 1).bind fun h51 => (xpn h51 p0 12 15 ).bind fun h52 => (gl h52 [p0, p0]).bind fun _ => (xna h52 26 0 12).bind fun h53 => (xpr h53 p0 12 16 26).bind fun h54 => (gl h54 [p0, p0]).bind fun _ => (xna h54 27 0 12).bind fun h55 => (xpr h55 p0 12 17 27).bind fun h56 => (gl h56 [p0, p0]).bind fun _ => (xna h56 28 0 16).bind fun h57 => (xpr h57 p0 12 18 28).bind fun h58 => (gl h58 [p0, p0]).bind fun _ => (xna h58 29 0 24).bind fun h59 => (xpr h59 p0 12 19 29).bind fun h60 => some h60 else none
theorem g_X11_init {h0 : AH} {p0 : Nat} {x : AH} (e : f_X11_init h0 p0 = some x) : kd h0 p0 = 12 + 1 := by
  unfold f_X11_init at e
  by_cases hk : kd h0 p0 = 12 + 1
  · exact hk
  · rw [if_neg hk] at e
    cases e
theorem km_X11_init : KM yX11_init M_X11_init 0 := ⟨in_tb 31 (by decide +kernel) rfl, in_tb 1 (by decide +kernel) rfl, by decide +kernel, rfl, rfl⟩
section
variable {l : Launch} {g : GG}
end
set_option maxRecDepth 100000 in
set_option maxHeartbeats 4000000 in
theorem c_X11_init (l : Launch) (g : GG) (h0 : AH) (p0 : Nat) : CN l g yX11_init M_X11_init true [.ref p0] h0 rSv (f_X11_init h0 p0) := by
  refine CN.of (by decide) rfl (fun hh => by first | rfl | cases hh) (Nat.le_of_ble_eq_true rfl) ?_
  unfold f_X11_init
  refine a_gd (fun hkd => ?_)
  refine a_aload_n dX11_init_0 rfl 0 rfl ?_
  refine a_objI dX11_init_1 w_methodLink_RainCover_3 w_instanceMethod_java_lang_Object__init____V w_code_java_lang_Object__init____V (by decide) (by decide) (Nat.le_of_ble_eq_true rfl) ?_
  refine a_aload_n dX11_init_4 rfl 0 rfl ?_
  refine a_new (r := 10) kc0 [p0, p0] rfl dX11_init_5 (by decide +kernel) w_classLink_RainCover_9 w_instantiable_java_util_ArrayList w_initialized_java_util_ArrayList (by decide) (by decide) (fun h1 => ?_)
  refine a_widen 1 3 (by decide) (by decide) ?_
  refine a_dup dX11_init_8 rfl ?_
  refine a_cI_Sv (r := 10) (as := []) (st := [.ref 10, .ref p0]) dX11_init_9 (c_Jx4a65c_init_da8c8 l g h1 10) rfl km_Jx4a65c_init_da8c8 (hm_Jx4a65c_init_da8c8) rfl rfl w_methodLink_RainCover_11 w_instanceMethod_java_util_ArrayList__init____V ⟨⟨by decide, by decide⟩, ⟨by decide, by decide⟩⟩ (Nat.le_of_ble_eq_true rfl) (fun q2 => ?_)
  refine a_putrF kc12 0 dX11_init_12 (by decide) rfl w_fieldLink_RainCover_12 (fun _ => ⟨rfl, rfl⟩) rfl rfl rfl (fun h3 => ?_)
  refine a_aload_n dX11_init_15 rfl 0 rfl ?_
  refine a_new (r := 11) kc0 [p0, p0] rfl dX11_init_16 (by decide +kernel) w_classLink_RainCover_9 w_instantiable_java_util_ArrayList w_initialized_java_util_ArrayList (by decide) (by decide) (fun h4 => ?_)
  refine a_widen 2 6 (by decide) (by decide) ?_
  refine a_dup dX11_init_19 rfl ?_
  refine a_cI_Sv (r := 11) (as := []) (st := [.ref 11, .ref p0]) dX11_init_20 (c_Jx4a65c_init_da8c8 l g h4 11) rfl km_Jx4a65c_init_da8c8 (hm_Jx4a65c_init_da8c8) rfl rfl w_methodLink_RainCover_11 w_instanceMethod_java_util_ArrayList__init____V ⟨⟨by decide, by decide⟩, ⟨by decide, by decide⟩⟩ (Nat.le_of_ble_eq_true rfl) (fun q5 => ?_)
  refine a_putrF kc12 1 dX11_init_23 (by decide) rfl w_fieldLink_RainCover_18 (fun _ => ⟨rfl, rfl⟩) rfl rfl rfl (fun h6 => ?_)
  refine a_aload_n dX11_init_26 rfl 0 rfl ?_
  refine a_new (r := 12) kc0 [p0, p0] rfl dX11_init_27 (by decide +kernel) w_classLink_RainCover_9 w_instantiable_java_util_ArrayList w_initialized_java_util_ArrayList (by decide) (by decide) (fun h7 => ?_)
  refine a_widen 3 9 (by decide) (by decide) ?_
  refine a_dup dX11_init_30 rfl ?_
  refine a_cI_Sv (r := 12) (as := []) (st := [.ref 12, .ref p0]) dX11_init_31 (c_Jx4a65c_init_da8c8 l g h7 12) rfl km_Jx4a65c_init_da8c8 (hm_Jx4a65c_init_da8c8) rfl rfl w_methodLink_RainCover_11 w_instanceMethod_java_util_ArrayList__init____V ⟨⟨by decide, by decide⟩, ⟨by decide, by decide⟩⟩ (Nat.le_of_ble_eq_true rfl) (fun q8 => ?_)
  refine a_putrF kc12 2 dX11_init_34 (by decide) rfl w_fieldLink_RainCover_21 (fun _ => ⟨rfl, rfl⟩) rfl rfl rfl (fun h9 => ?_)
  refine a_aload_n dX11_init_37 rfl 0 rfl ?_
  refine a_new (r := 13) kc0 [p0, p0] rfl dX11_init_38 (by decide +kernel) w_classLink_RainCover_9 w_instantiable_java_util_ArrayList w_initialized_java_util_ArrayList (by decide) (by decide) (fun h10 => ?_)
  refine a_widen 4 12 (by decide) (by decide) ?_
  refine a_dup dX11_init_41 rfl ?_
  refine a_cI_Sv (r := 13) (as := []) (st := [.ref 13, .ref p0]) dX11_init_42 (c_Jx4a65c_init_da8c8 l g h10 13) rfl km_Jx4a65c_init_da8c8 (hm_Jx4a65c_init_da8c8) rfl rfl w_methodLink_RainCover_11 w_instanceMethod_java_util_ArrayList__init____V ⟨⟨by decide, by decide⟩, ⟨by decide, by decide⟩⟩ (Nat.le_of_ble_eq_true rfl) (fun q11 => ?_)
  refine a_putrF kc12 3 dX11_init_45 (by decide) rfl w_fieldLink_RainCover_24 (fun _ => ⟨rfl, rfl⟩) rfl rfl rfl (fun h12 => ?_)
  refine a_aload_n dX11_init_48 rfl 0 rfl ?_
  refine a_new (r := 14) kc10 [p0, p0] rfl dX11_init_49 (by decide +kernel) w_classLink_RainCover_27 w_instantiable_RainCover_Tellings w_initialized_RainCover_Tellings (by decide) (by decide) (fun h13 => ?_)
  refine a_widen 5 16 (by decide) (by decide) ?_
  refine a_dup dX11_init_52 rfl ?_
  refine a_xIN_Sv (r := 14) (as := []) (st := [.ref 14, .ref p0]) dX11_init_53 [p0, 14, p0] rfl (c_X9_init l g h13 14) rfl km_X9_init rfl rfl (host := "RainCover") (by decide +kernel) w_instanceMethod_RainCover_Tellings__init____V ⟨⟨by decide, by decide⟩, ⟨by decide, by decide⟩⟩ (Nat.le_of_ble_eq_true rfl) (fun q14 => ?_)
  refine a_widen 8 3722 (by decide) (by decide) ?_
  refine a_putrF kc12 4 dX11_init_56 (by decide) rfl w_fieldLink_RainCover_30 (fun _ => ⟨rfl, rfl⟩) rfl rfl rfl (fun h15 => ?_)
  refine a_aload_n dX11_init_59 rfl 0 rfl ?_
  refine a_new (r := 15) kc9 [p0, p0] rfl dX11_init_60 (by decide +kernel) w_classLink_RainCover_34 w_instantiable_RainCover_Tape w_initialized_RainCover_Tape (by decide) (by decide) (fun h16 => ?_)
  refine a_widen 9 3726 (by decide) (by decide) ?_
  refine a_dup dX11_init_63 rfl ?_
  refine a_xIN_Sv (r := 15) (as := []) (st := [.ref 15, .ref p0]) dX11_init_64 [p0, 15, p0] rfl (c_X8_init l g h16 15) rfl km_X8_init rfl rfl (host := "RainCover") (by decide +kernel) w_instanceMethod_RainCover_Tape__init____V ⟨⟨by decide, by decide⟩, ⟨by decide, by decide⟩⟩ (Nat.le_of_ble_eq_true rfl) (fun q17 => ?_)
  refine a_widen 10 3826 (by decide) (by decide) ?_
  refine a_putrF kc12 5 dX11_init_67 (by decide) rfl w_fieldLink_RainCover_37 (fun _ => ⟨rfl, rfl⟩) rfl rfl rfl (fun h18 => ?_)
  refine a_aload_n dX11_init_70 rfl 0 rfl ?_
  refine a_iconst (v := 4) dX11_init_71 (by decide) ?_
  refine a_newa_int (r := 16) [p0, p0] rfl dX11_init_72 w_arrayClass_int (by decide) (by decide) (fun h19 => ?_)
  refine a_widen 11 3830 (by decide) (by decide) ?_
  refine a_dup dX11_init_74 rfl ?_
  refine a_iconst (v := 0) dX11_init_75 (by decide) ?_
  refine a_bipush (v := 40) dX11_init_76 (by decide) ?_
  refine a_iast dX11_init_78 (fun h20 => ?_)
  refine a_dup dX11_init_79 rfl ?_
  refine a_iconst (v := 1) dX11_init_80 (by decide) ?_
  refine a_sipush (v := 500) dX11_init_81 (by decide) ?_
  refine a_iast dX11_init_84 (fun h21 => ?_)
  refine a_dup dX11_init_85 rfl ?_
  refine a_iconst (v := 2) dX11_init_86 (by decide) ?_
  refine a_bipush (v := 20) dX11_init_87 (by decide) ?_
  refine a_iast dX11_init_89 (fun h22 => ?_)
  refine a_dup dX11_init_90 rfl ?_
  refine a_iconst (v := 3) dX11_init_91 (by decide) ?_
  refine a_iconst (v := 0) dX11_init_92 (by decide) ?_
  refine a_iast dX11_init_93 (fun h23 => ?_)
  refine a_putrF kc12 6 dX11_init_94 (by decide) rfl w_fieldLink_RainCover_41 (fun _ => ⟨rfl, rfl⟩) rfl rfl rfl (fun h24 => ?_)
  refine a_aload_n dX11_init_97 rfl 0 rfl ?_
  refine a_iconst (v := 4) dX11_init_98 (by decide) ?_
  refine a_newa_int (r := 17) [p0, p0] rfl dX11_init_99 w_arrayClass_int (by decide) (by decide) (fun h25 => ?_)
  refine a_widen 12 3834 (by decide) (by decide) ?_
  refine a_putrF kc12 7 dX11_init_101 (by decide) rfl w_fieldLink_RainCover_45 (fun _ => ⟨rfl, rfl⟩) rfl rfl rfl (fun h26 => ?_)
  refine a_aload_n dX11_init_104 rfl 0 rfl ?_
  refine a_new (r := 18) kc8 [p0, p0] rfl dX11_init_105 (by decide +kernel) w_classLink_RainCover_48 w_instantiable_RainCover_Table w_initialized_RainCover_Table (by decide) (by decide) (fun h27 => ?_)
  refine a_widen 13 3838 (by decide) (by decide) ?_
  refine a_dup dX11_init_108 rfl ?_
  refine a_bipush (v := 60) dX11_init_109 (by decide) ?_
  refine a_iconst (v := 4) dX11_init_111 (by decide) ?_
  refine a_xI_Sv (r := 18) (as := [.int 60, .int 4]) (st := [.ref 18, .ref p0]) dX11_init_112 [p0, 18, p0] rfl (c_X7_init l g h27 18 60 4) rfl km_X7_init rfl rfl w_methodLink_RainCover_50 w_instanceMethod_RainCover_Table__init___II_V ⟨⟨by decide, by decide⟩, ⟨by decide, by decide⟩⟩ (Nat.le_of_ble_eq_true rfl) (fun q28 => ?_)
  refine a_widen 14 4838 (by decide) (by decide) ?_
  refine a_putrF kc12 8 dX11_init_115 (by decide) rfl w_fieldLink_RainCover_53 (fun _ => ⟨rfl, rfl⟩) rfl rfl rfl (fun h29 => ?_)
  refine a_aload_n dX11_init_118 rfl 0 rfl ?_
  refine a_new (r := 19) kc8 [p0, p0] rfl dX11_init_119 (by decide +kernel) w_classLink_RainCover_48 w_instantiable_RainCover_Table w_initialized_RainCover_Table (by decide) (by decide) (fun h30 => ?_)
  refine a_widen 15 4842 (by decide) (by decide) ?_
  refine a_dup dX11_init_122 rfl ?_
  refine a_bipush (v := 80) dX11_init_123 (by decide) ?_
  refine a_iconst (v := 4) dX11_init_125 (by decide) ?_
  refine a_xI_Sv (r := 19) (as := [.int 80, .int 4]) (st := [.ref 19, .ref p0]) dX11_init_126 [p0, 19, p0] rfl (c_X7_init l g h30 19 80 4) rfl km_X7_init rfl rfl w_methodLink_RainCover_50 w_instanceMethod_RainCover_Table__init___II_V ⟨⟨by decide, by decide⟩, ⟨by decide, by decide⟩⟩ (Nat.le_of_ble_eq_true rfl) (fun q31 => ?_)
  refine a_widen 16 5842 (by decide) (by decide) ?_
  refine a_putrF kc12 9 dX11_init_129 (by decide) rfl w_fieldLink_RainCover_57 (fun _ => ⟨rfl, rfl⟩) rfl rfl rfl (fun h32 => ?_)
  refine a_aload_n dX11_init_132 rfl 0 rfl ?_
  refine a_new (r := 20) kc8 [p0, p0] rfl dX11_init_133 (by decide +kernel) w_classLink_RainCover_48 w_instantiable_RainCover_Table w_initialized_RainCover_Table (by decide) (by decide) (fun h33 => ?_)
  refine a_widen 17 5846 (by decide) (by decide) ?_
  refine a_dup dX11_init_136 rfl ?_
  refine a_sipush (v := 200) dX11_init_137 (by decide) ?_
  refine a_iconst (v := 4) dX11_init_140 (by decide) ?_
  refine a_xI_Sv (r := 20) (as := [.int 200, .int 4]) (st := [.ref 20, .ref p0]) dX11_init_141 [p0, 20, p0] rfl (c_X7_init l g h33 20 200 4) rfl km_X7_init rfl rfl w_methodLink_RainCover_50 w_instanceMethod_RainCover_Table__init___II_V ⟨⟨by decide, by decide⟩, ⟨by decide, by decide⟩⟩ (Nat.le_of_ble_eq_true rfl) (fun q34 => ?_)
  refine a_widen 18 6846 (by decide) (by decide) ?_
  refine a_putrF kc12 10 dX11_init_144 (by decide) rfl w_fieldLink_RainCover_60 (fun _ => ⟨rfl, rfl⟩) rfl rfl rfl (fun h35 => ?_)
  refine a_aload_n dX11_init_147 rfl 0 rfl ?_
  refine a_new (r := 21) kc8 [p0, p0] rfl dX11_init_148 (by decide +kernel) w_classLink_RainCover_48 w_instantiable_RainCover_Table w_initialized_RainCover_Table (by decide) (by decide) (fun h36 => ?_)
  refine a_widen 19 6850 (by decide) (by decide) ?_
  refine a_dup dX11_init_151 rfl ?_
  refine a_bipush (v := 20) dX11_init_152 (by decide) ?_
  refine a_iconst (v := 5) dX11_init_154 (by decide) ?_
  refine a_xI_Sv (r := 21) (as := [.int 20, .int 5]) (st := [.ref 21, .ref p0]) dX11_init_155 [p0, 21, p0] rfl (c_X7_init l g h36 21 20 5) rfl km_X7_init rfl rfl w_methodLink_RainCover_50 w_instanceMethod_RainCover_Table__init___II_V ⟨⟨by decide, by decide⟩, ⟨by decide, by decide⟩⟩ (Nat.le_of_ble_eq_true rfl) (fun q37 => ?_)
  refine a_widen 20 7850 (by decide) (by decide) ?_
  refine a_putrF kc12 11 dX11_init_158 (by decide) rfl w_fieldLink_RainCover_63 (fun _ => ⟨rfl, rfl⟩) rfl rfl rfl (fun h38 => ?_)
  refine a_aload_n dX11_init_161 rfl 0 rfl ?_
  refine a_iconst (v := 3) dX11_init_162 (by decide) ?_
  refine a_newq4 (r := 22) [p0, p0] rfl dX11_init_163 w_classLink_RainCover_66 (by decide) (by decide) (fun h39 => ?_)
  refine a_widen 21 7853 (by decide) (by decide) ?_
  refine a_dup dX11_init_166 rfl ?_
  refine a_iconst (v := 0) dX11_init_167 (by decide) ?_
  refine a_new (r := 23) kc7 [p0, 22, 22, p0] rfl dX11_init_168 (by decide +kernel) w_classLink_RainCover_66 w_instantiable_RainCover_Sheet w_initialized_RainCover_Sheet (by decide) (by decide) (fun h40 => ?_)
  refine a_widen 22 7856 (by decide) (by decide) ?_
  refine a_dup dX11_init_171 rfl ?_
  refine a_xIN_Sv (r := 23) (as := []) (st := [.ref 23, .int 0, .ref 22, .ref 22, .ref p0]) dX11_init_172 [p0, 23, 22, 22, p0] rfl (c_X6_init l g h40 23) rfl km_X6_init rfl rfl (host := "RainCover") (by decide +kernel) w_instanceMethod_RainCover_Sheet__init____V ⟨⟨by decide, by decide⟩, ⟨by decide, by decide⟩⟩ (Nat.le_of_ble_eq_true rfl) (fun q41 => ?_)
  refine a_widen 23 7896 (by decide) (by decide) ?_
  refine a_aast dX11_init_175 (fun h42 => ?_)
  refine a_dup dX11_init_176 rfl ?_
  refine a_iconst (v := 1) dX11_init_177 (by decide) ?_
  refine a_new (r := 24) kc7 [p0, 22, 22, p0] rfl dX11_init_178 (by decide +kernel) w_classLink_RainCover_66 w_instantiable_RainCover_Sheet w_initialized_RainCover_Sheet (by decide) (by decide) (fun h43 => ?_)
  refine a_widen 24 7899 (by decide) (by decide) ?_
  refine a_dup dX11_init_181 rfl ?_
  refine a_xIN_Sv (r := 24) (as := []) (st := [.ref 24, .int 1, .ref 22, .ref 22, .ref p0]) dX11_init_182 [p0, 24, 22, 22, p0] rfl (c_X6_init l g h43 24) rfl km_X6_init rfl rfl (host := "RainCover") (by decide +kernel) w_instanceMethod_RainCover_Sheet__init____V ⟨⟨by decide, by decide⟩, ⟨by decide, by decide⟩⟩ (Nat.le_of_ble_eq_true rfl) (fun q44 => ?_)
  refine a_widen 25 7939 (by decide) (by decide) ?_
  refine a_aast dX11_init_185 (fun h45 => ?_)
  refine a_dup dX11_init_186 rfl ?_
  refine a_iconst (v := 2) dX11_init_187 (by decide) ?_
  refine a_new (r := 25) kc7 [p0, 22, 22, p0] rfl dX11_init_188 (by decide +kernel) w_classLink_RainCover_66 w_instantiable_RainCover_Sheet w_initialized_RainCover_Sheet (by decide) (by decide) (fun h46 => ?_)
  refine a_widen 26 7942 (by decide) (by decide) ?_
  refine a_dup dX11_init_191 rfl ?_
  refine a_xIN_Sv (r := 25) (as := []) (st := [.ref 25, .int 2, .ref 22, .ref 22, .ref p0]) dX11_init_192 [p0, 25, 22, 22, p0] rfl (c_X6_init l g h46 25) rfl km_X6_init rfl rfl (host := "RainCover") (by decide +kernel) w_instanceMethod_RainCover_Sheet__init____V ⟨⟨by decide, by decide⟩, ⟨by decide, by decide⟩⟩ (Nat.le_of_ble_eq_true rfl) (fun q47 => ?_)
  refine a_widen 27 7982 (by decide) (by decide) ?_
  refine a_aast dX11_init_195 (fun h48 => ?_)
  refine a_putrF kc12 12 dX11_init_196 (by decide) rfl w_fieldLink_RainCover_69 (fun _ => ⟨rfl, rfl⟩) rfl rfl rfl (fun h49 => ?_)
  refine a_aload_n dX11_init_199 rfl 0 rfl ?_
  refine a_iconst (v := 0) dX11_init_200 (by decide) ?_
  refine a_puti kc12 13 dX11_init_201 (by decide) rfl w_fieldLink_RainCover_73 rfl rfl (fun h50 => ?_)
  refine a_aload_n dX11_init_204 rfl 0 rfl ?_
  refine a_iconst (v := 1) dX11_init_205 (by decide) ?_
  refine a_puti kc12 14 dX11_init_206 (by decide) rfl w_fieldLink_RainCover_77 rfl rfl (fun h51 => ?_)
  refine a_aload_n dX11_init_209 rfl 0 rfl ?_
  refine a_null dX11_init_210 ?_
  refine a_putn (x := ()) kc12 15 dX11_init_211 (by decide) rfl w_fieldLink_RainCover_80 ⟨rfl, rfl⟩ rfl (fun h52 => ?_)
  refine a_aload_n dX11_init_214 rfl 0 rfl ?_
  refine a_bipush (v := 12) dX11_init_215 (by decide) ?_
  refine a_newa_int (r := 26) [p0, p0] rfl dX11_init_217 w_arrayClass_int (by decide) (by decide) (fun h53 => ?_)
  refine a_widen 28 7994 (by decide) (by decide) ?_
  refine a_putrF kc12 16 dX11_init_219 (by decide) rfl w_fieldLink_RainCover_84 (fun _ => ⟨rfl, rfl⟩) rfl rfl rfl (fun h54 => ?_)
  refine a_aload_n dX11_init_222 rfl 0 rfl ?_
  refine a_bipush (v := 12) dX11_init_223 (by decide) ?_
  refine a_newa_int (r := 27) [p0, p0] rfl dX11_init_225 w_arrayClass_int (by decide) (by decide) (fun h55 => ?_)
  refine a_widen 29 8006 (by decide) (by decide) ?_
  refine a_putrF kc12 17 dX11_init_227 (by decide) rfl w_fieldLink_RainCover_87 (fun _ => ⟨rfl, rfl⟩) rfl rfl rfl (fun h56 => ?_)
  refine a_aload_n dX11_init_230 rfl 0 rfl ?_
  refine a_bipush (v := 16) dX11_init_231 (by decide) ?_
  refine a_newa_int (r := 28) [p0, p0] rfl dX11_init_233 w_arrayClass_int (by decide) (by decide) (fun h57 => ?_)
  refine a_widen 30 8022 (by decide) (by decide) ?_
  refine a_putrF kc12 18 dX11_init_235 (by decide) rfl w_fieldLink_RainCover_90 (fun _ => ⟨rfl, rfl⟩) rfl rfl rfl (fun h58 => ?_)
  refine a_aload_n dX11_init_238 rfl 0 rfl ?_
  refine a_bipush (v := 24) dX11_init_239 (by decide) ?_
  refine a_newa_int (r := 29) [p0, p0] rfl dX11_init_241 w_arrayClass_int (by decide) (by decide) (fun h59 => ?_)
  refine a_widen 31 8046 (by decide) (by decide) ?_
  refine a_putrF kc12 19 dX11_init_243 (by decide) rfl w_fieldLink_RainCover_93 (fun _ => ⟨rfl, rfl⟩) rfl rfl rfl (fun h60 => ?_)
  exact a_vret dX11_init_246 rfl rfl (by decide) (by decide)
theorem dX11_within_0 : decode cX11_within 0 = .ok (.iload_n 1, 1) := by decide +kernel
theorem dX11_within_1 : decode cX11_within 1 = .ok (.iload_n 0, 1) := by decide +kernel
theorem dX11_within_2 : decode cX11_within 2 = .ok (.if_icmp .gt 12, 3) := by decide +kernel
theorem dX11_within_5 : decode cX11_within 5 = .ok (.iload_n 0, 1) := by decide +kernel
theorem dX11_within_6 : decode cX11_within 6 = .ok (.iload_n 2, 1) := by decide +kernel
theorem dX11_within_7 : decode cX11_within 7 = .ok (.if_icmp .gt 7, 3) := by decide +kernel
theorem dX11_within_10 : decode cX11_within 10 = .ok (.iconst 1, 1) := by decide +kernel
theorem dX11_within_11 : decode cX11_within 11 = .ok (.goto 4, 3) := by decide +kernel
theorem dX11_within_14 : decode cX11_within 14 = .ok (.iconst 0, 1) := by decide +kernel
theorem dX11_within_15 : decode cX11_within 15 = .ok (.ireturn, 1) := by decide +kernel
abbrev M_X11_within : MI := (RX11, cX11_within, 3, (some .boolean), ({ frames := 0, cells := 0, slots := 0, locals := 0 } : Room), 0, 0, false)
def f_X11_within (h : AH) (p0 : Int32) (p1 : Int32) (p2 : Int32) : Option Int32 := (if p0 < p1 then some 0 else (if p2 < p0 then some 0 else some 1))
theorem km_X11_within : KM yX11_within M_X11_within 3 := ⟨in_tb 213 (by decide +kernel) rfl, in_tb 1 (by decide +kernel) rfl, by decide +kernel, rfl, rfl⟩
theorem hm_X11_within : M_X11_within.2.2.2.2.2.1 = 0 ∧ M_X11_within.2.2.2.2.2.2.1 = 0 := ⟨rfl, rfl⟩
section
variable {l : Launch} {g : GG}
end
set_option maxRecDepth 100000 in
set_option maxHeartbeats 4000000 in
theorem c_X11_within (l : Launch) (g : GG) (h : AH) (p0 : Int32) (p1 : Int32) (p2 : Int32) : CN l g yX11_within M_X11_within false [.int p0, .int p1, .int p2] h ((rPi h)) (f_X11_within h p0 p1 p2) := by
  refine CN.of (by decide) rfl (fun hh => by first | rfl | cases hh) (Nat.le_of_ble_eq_true rfl) ?_
  unfold f_X11_within
  refine a_iload_n dX11_within_0 rfl 1 rfl ?_
  refine a_iload_n dX11_within_1 rfl 0 rfl ?_
  refine a_icmp_gt 14 dX11_within_2 (by decide) (fun c1 => ?_) (fun c1 => ?_)
  · refine a_iconst (v := 0) dX11_within_14 (by decide) ?_
    exact a_zret dX11_within_15 rfl (Or.inl rfl) rfl (by decide) (by decide)
  · refine a_iload_n dX11_within_5 rfl 0 rfl ?_
    refine a_iload_n dX11_within_6 rfl 2 rfl ?_
    refine a_icmp_gt 14 dX11_within_7 (by decide) (fun c2 => ?_) (fun c2 => ?_)
    · refine a_iconst (v := 0) dX11_within_14 (by decide) ?_
      exact a_zret dX11_within_15 rfl (Or.inl rfl) rfl (by decide) (by decide)
    · refine a_iconst (v := 1) dX11_within_10 (by decide) ?_
      refine a_goto 15 dX11_within_11 (by decide) ?_
      exact a_zret dX11_within_15 rfl (Or.inr rfl) rfl (by decide) (by decide)
theorem dX11_isPlace_0 : decode cX11_isPlace 0 = .ok (.iload_n 0, 1) := by decide +kernel
theorem dX11_isPlace_1 : decode cX11_isPlace 1 = .ok (.iconst 0, 1) := by decide +kernel
theorem dX11_isPlace_2 : decode cX11_isPlace 2 = .ok (.bipush 99, 2) := by decide +kernel
theorem dX11_isPlace_4 : decode cX11_isPlace 4 = .ok (.invokestatic 120, 3) := by decide +kernel
theorem dX11_isPlace_7 : decode cX11_isPlace 7 = .ok (.ifCond .eq 17, 3) := by decide +kernel
theorem dX11_isPlace_10 : decode cX11_isPlace 10 = .ok (.iload_n 1, 1) := by decide +kernel
theorem dX11_isPlace_11 : decode cX11_isPlace 11 = .ok (.iconst 0, 1) := by decide +kernel
theorem dX11_isPlace_12 : decode cX11_isPlace 12 = .ok (.bipush 99, 2) := by decide +kernel
theorem dX11_isPlace_14 : decode cX11_isPlace 14 = .ok (.invokestatic 120, 3) := by decide +kernel
theorem dX11_isPlace_17 : decode cX11_isPlace 17 = .ok (.ifCond .eq 7, 3) := by decide +kernel
theorem dX11_isPlace_20 : decode cX11_isPlace 20 = .ok (.iconst 1, 1) := by decide +kernel
theorem dX11_isPlace_21 : decode cX11_isPlace 21 = .ok (.goto 4, 3) := by decide +kernel
theorem dX11_isPlace_24 : decode cX11_isPlace 24 = .ok (.iconst 0, 1) := by decide +kernel
theorem dX11_isPlace_25 : decode cX11_isPlace 25 = .ok (.ireturn, 1) := by decide +kernel
abbrev M_X11_isPlace : MI := (RX11, cX11_isPlace, 2, (some .boolean), ({ frames := 1, cells := 0, slots := 0, locals := 22 } : Room), 0, 0, false)
def f_X11_isPlace (h : AH) (p0 : Int32) (p1 : Int32) : Option Int32 := (f_X11_within h p0 0 99).bind fun v1 => (if v1 = 0 then some 0 else (f_X11_within h p1 0 99).bind fun v3 => (if v3 = 0 then some 0 else some 1))
theorem km_X11_isPlace : KM yX11_isPlace M_X11_isPlace 2 := ⟨in_tb 210 (by decide +kernel) rfl, in_tb 1 (by decide +kernel) rfl, by decide +kernel, rfl, rfl⟩
theorem hm_X11_isPlace : M_X11_isPlace.2.2.2.2.2.1 = 0 ∧ M_X11_isPlace.2.2.2.2.2.2.1 = 0 := ⟨rfl, rfl⟩
section
variable {l : Launch} {g : GG}
end
set_option maxRecDepth 100000 in
set_option maxHeartbeats 4000000 in
theorem c_X11_isPlace (l : Launch) (g : GG) (h : AH) (p0 : Int32) (p1 : Int32) : CN l g yX11_isPlace M_X11_isPlace false [.int p0, .int p1] h ((rPi h)) (f_X11_isPlace h p0 p1) := by
  refine CN.of (by decide) rfl (fun hh => by first | rfl | cases hh) (Nat.le_of_ble_eq_true rfl) ?_
  unfold f_X11_isPlace
  refine a_iload_n dX11_isPlace_0 rfl 0 rfl ?_
  refine a_iconst (v := 0) dX11_isPlace_1 (by decide) ?_
  refine a_bipush (v := 99) dX11_isPlace_2 (by decide) ?_
  refine a_cS_Pi (as := [.int p0, .int 0, .int 99]) (st := []) dX11_isPlace_4 (c_X11_within l g h p0 0 99) rfl km_X11_within (hm_X11_within) w_methodLink_RainCover_120 w_static_RainCover_within__III_Z ⟨⟨by decide, by decide⟩, ⟨by decide, by decide⟩⟩ (Nat.le_of_ble_eq_true rfl) (fun v1 => ?_)
  refine a_if_eq 24 dX11_isPlace_7 (by decide) (fun c2 => ?_) (fun c2 => ?_)
  · refine a_iconst (v := 0) dX11_isPlace_24 (by decide) ?_
    exact a_zret dX11_isPlace_25 rfl (Or.inl rfl) rfl (by decide) (by decide)
  · refine a_iload_n dX11_isPlace_10 rfl 1 rfl ?_
    refine a_iconst (v := 0) dX11_isPlace_11 (by decide) ?_
    refine a_bipush (v := 99) dX11_isPlace_12 (by decide) ?_
    refine a_cS_Pi (as := [.int p1, .int 0, .int 99]) (st := []) dX11_isPlace_14 (c_X11_within l g h p1 0 99) rfl km_X11_within (hm_X11_within) w_methodLink_RainCover_120 w_static_RainCover_within__III_Z ⟨⟨by decide, by decide⟩, ⟨by decide, by decide⟩⟩ (Nat.le_of_ble_eq_true rfl) (fun v3 => ?_)
    refine a_if_eq 24 dX11_isPlace_17 (by decide) (fun c4 => ?_) (fun c4 => ?_)
    · refine a_iconst (v := 0) dX11_isPlace_24 (by decide) ?_
      exact a_zret dX11_isPlace_25 rfl (Or.inl rfl) rfl (by decide) (by decide)
    · refine a_iconst (v := 1) dX11_isPlace_20 (by decide) ?_
      refine a_goto 25 dX11_isPlace_21 (by decide) ?_
      exact a_zret dX11_isPlace_25 rfl (Or.inr rfl) rfl (by decide) (by decide)
theorem dX11_isSeason_0 : decode cX11_isSeason 0 = .ok (.iload_n 0, 1) := by decide +kernel
theorem dX11_isSeason_1 : decode cX11_isSeason 1 = .ok (.iconst 0, 1) := by decide +kernel
theorem dX11_isSeason_2 : decode cX11_isSeason 2 = .ok (.bipush 15, 2) := by decide +kernel
theorem dX11_isSeason_4 : decode cX11_isSeason 4 = .ok (.invokestatic 120, 3) := by decide +kernel
theorem dX11_isSeason_7 : decode cX11_isSeason 7 = .ok (.ireturn, 1) := by decide +kernel
abbrev M_X11_isSeason : MI := (RX11, cX11_isSeason, 1, (some .boolean), ({ frames := 1, cells := 0, slots := 0, locals := 22 } : Room), 0, 0, false)
def f_X11_isSeason (h : AH) (p0 : Int32) : Option Int32 := (f_X11_within h p0 0 15).bind fun v1 => (if v1 = 0 ∨ v1 = 1 then some v1 else none)
theorem km_X11_isSeason : KM yX11_isSeason M_X11_isSeason 1 := ⟨in_tb 216 (by decide +kernel) rfl, in_tb 1 (by decide +kernel) rfl, by decide +kernel, rfl, rfl⟩
theorem hm_X11_isSeason : M_X11_isSeason.2.2.2.2.2.1 = 0 ∧ M_X11_isSeason.2.2.2.2.2.2.1 = 0 := ⟨rfl, rfl⟩
section
variable {l : Launch} {g : GG}
end
set_option maxRecDepth 100000 in
set_option maxHeartbeats 4000000 in
theorem c_X11_isSeason (l : Launch) (g : GG) (h : AH) (p0 : Int32) : CN l g yX11_isSeason M_X11_isSeason false [.int p0] h ((rPi h)) (f_X11_isSeason h p0) := by
  refine CN.of (by decide) rfl (fun hh => by first | rfl | cases hh) (Nat.le_of_ble_eq_true rfl) ?_
  unfold f_X11_isSeason
  refine a_iload_n dX11_isSeason_0 rfl 0 rfl ?_
  refine a_iconst (v := 0) dX11_isSeason_1 (by decide) ?_
  refine a_bipush (v := 15) dX11_isSeason_2 (by decide) ?_
  refine a_cS_Pi (as := [.int p0, .int 0, .int 15]) (st := []) dX11_isSeason_4 (c_X11_within l g h p0 0 15) rfl km_X11_within (hm_X11_within) w_methodLink_RainCover_120 w_static_RainCover_within__III_Z ⟨⟨by decide, by decide⟩, ⟨by decide, by decide⟩⟩ (Nat.le_of_ble_eq_true rfl) (fun v1 => ?_)
  exact a_gd (fun c2 => a_zret dX11_isSeason_7 rfl c2 rfl (by decide) (by decide))
theorem dJx4a65c_size_8abf5_0 : decode cJx4a65c_size_8abf5 0 = .ok (.aload_n 0, 1) := by decide +kernel
theorem dJx4a65c_size_8abf5_1 : decode cJx4a65c_size_8abf5 1 = .ok (.getfield 48, 3) := by decide +kernel
theorem dJx4a65c_size_8abf5_4 : decode cJx4a65c_size_8abf5 4 = .ok (.ireturn, 1) := by decide +kernel
abbrev M_Jx4a65c_size_8abf5 : MI := (RJx4a65c, cJx4a65c_size_8abf5, 1, (some .int), ({ frames := 0, cells := 0, slots := 0, locals := 0 } : Room), 0, 0, false)
def f_Jx4a65c_size_8abf5 (h : AH) (p0 : Nat) : Option Int32 := if kd h p0 = 0 + 1 then (xgi h p0 0 2).bind fun v1 => some v1 else none
theorem g_Jx4a65c_size_8abf5 {h : AH} {p0 : Nat} {x : Int32} (e : f_Jx4a65c_size_8abf5 h p0 = some x) : kd h p0 = 0 + 1 := by
  unfold f_Jx4a65c_size_8abf5 at e
  by_cases hk : kd h p0 = 0 + 1
  · exact hk
  · rw [if_neg hk] at e
    cases e
theorem km_Jx4a65c_size_8abf5 : KM yJx4a65c_size_8abf5 M_Jx4a65c_size_8abf5 0 := ⟨in_tb 220 (by decide +kernel) rfl, in_tb 4 (by decide +kernel) rfl, by decide +kernel, rfl, rfl⟩
theorem hm_Jx4a65c_size_8abf5 : M_Jx4a65c_size_8abf5.2.2.2.2.2.1 = 0 ∧ M_Jx4a65c_size_8abf5.2.2.2.2.2.2.1 = 0 := ⟨rfl, rfl⟩
section
variable {l : Launch} {g : GG}
end
set_option maxRecDepth 100000 in
set_option maxHeartbeats 4000000 in
theorem c_Jx4a65c_size_8abf5 (l : Launch) (g : GG) (h : AH) (p0 : Nat) : CN l g yJx4a65c_size_8abf5 M_Jx4a65c_size_8abf5 false [.ref p0] h ((rPi h)) (f_Jx4a65c_size_8abf5 h p0) := by
  refine CN.of (by decide) rfl (fun hh => by first | rfl | cases hh) (Nat.le_of_ble_eq_true rfl) ?_
  unfold f_Jx4a65c_size_8abf5
  refine a_gd (fun hkd => ?_)
  refine a_aload_n dJx4a65c_size_8abf5_0 rfl 0 rfl ?_
  refine a_geti kc0 2 dJx4a65c_size_8abf5_1 (by decide) rfl w_fieldLink_java_util_ArrayList_48 (fun v1 => ?_)
  exact a_iret dJx4a65c_size_8abf5_4 rfl rfl (by decide) (by decide)
theorem dX3_init_0 : decode cX3_init 0 = .ok (.aload_n 0, 1) := by decide +kernel
theorem dX3_init_1 : decode cX3_init 1 = .ok (.invokespecial 3, 3) := by decide +kernel
theorem dX3_init_4 : decode cX3_init 4 = .ok (.aload_n 0, 1) := by decide +kernel
theorem dX3_init_5 : decode cX3_init 5 = .ok (.bipush 16, 2) := by decide +kernel
theorem dX3_init_7 : decode cX3_init 7 = .ok (.putfield 9, 3) := by decide +kernel
theorem dX3_init_10 : decode cX3_init 10 = .ok (.aload_n 0, 1) := by decide +kernel
theorem dX3_init_11 : decode cX3_init 11 = .ok (.iload_n 1, 1) := by decide +kernel
theorem dX3_init_12 : decode cX3_init 12 = .ok (.putfield 15, 3) := by decide +kernel
theorem dX3_init_15 : decode cX3_init 15 = .ok (.aload_n 0, 1) := by decide +kernel
theorem dX3_init_16 : decode cX3_init 16 = .ok (.iload_n 2, 1) := by decide +kernel
theorem dX3_init_17 : decode cX3_init 17 = .ok (.putfield 18, 3) := by decide +kernel
theorem dX3_init_20 : decode cX3_init 20 = .ok (.aload_n 0, 1) := by decide +kernel
theorem dX3_init_21 : decode cX3_init 21 = .ok (.iload_n 3, 1) := by decide +kernel
theorem dX3_init_22 : decode cX3_init 22 = .ok (.putfield 21, 3) := by decide +kernel
theorem dX3_init_25 : decode cX3_init 25 = .ok (.return_, 1) := by decide +kernel
abbrev M_X3_init : MI := (RX3, cX3_init, 4, none, ({ frames := 1, cells := 0, slots := 0, locals := 20 } : Room), 0, 0, true)
def f_X3_init (h0 : AH) (p0 : Nat) (p1 : Int32) (p2 : Int32) (p3 : Int32) : Option AH := if kd h0 p0 = 4 + 1 then (xpi h0 p0 4 3 16).bind fun h1 => (xpi h1 p0 4 0 p1).bind fun h2 => (xpi h2 p0 4 1 p2).bind fun h3 => (xpi h3 p0 4 2 p3).bind fun h4 => some h4 else none
theorem g_X3_init {h0 : AH} {p0 : Nat} {p1 : Int32} {p2 : Int32} {p3 : Int32} {x : AH} (e : f_X3_init h0 p0 p1 p2 p3 = some x) : kd h0 p0 = 4 + 1 := by
  unfold f_X3_init at e
  by_cases hk : kd h0 p0 = 4 + 1
  · exact hk
  · rw [if_neg hk] at e
    cases e
theorem km_X3_init : KM yX3_init M_X3_init 3 := ⟨in_tb 225 (by decide +kernel) rfl, in_tb 10 (by decide +kernel) rfl, by decide +kernel, rfl, rfl⟩
theorem hm_X3_init : M_X3_init.2.2.2.2.2.1 = 0 ∧ M_X3_init.2.2.2.2.2.2.1 = 0 := ⟨rfl, rfl⟩
section
variable {l : Launch} {g : GG}
end
set_option maxRecDepth 100000 in
set_option maxHeartbeats 4000000 in
theorem c_X3_init (l : Launch) (g : GG) (h0 : AH) (p0 : Nat) (p1 : Int32) (p2 : Int32) (p3 : Int32) : CN l g yX3_init M_X3_init false [.ref p0, .int p1, .int p2, .int p3] h0 rSv (f_X3_init h0 p0 p1 p2 p3) := by
  refine CN.of (by decide) rfl (fun hh => by first | rfl | cases hh) (Nat.le_of_ble_eq_true rfl) ?_
  unfold f_X3_init
  refine a_gd (fun hkd => ?_)
  refine a_aload_n dX3_init_0 rfl 0 rfl ?_
  refine a_objI dX3_init_1 w_methodLink_RainCover_Gauge_3 w_instanceMethod_java_lang_Object__init____V w_code_java_lang_Object__init____V (by decide) (by decide) (Nat.le_of_ble_eq_true rfl) ?_
  refine a_aload_n dX3_init_4 rfl 0 rfl ?_
  refine a_bipush (v := 16) dX3_init_5 (by decide) ?_
  refine a_puti kc4 3 dX3_init_7 (by decide) rfl w_fieldLink_RainCover_Gauge_9 rfl rfl (fun h1 => ?_)
  refine a_aload_n dX3_init_10 rfl 0 rfl ?_
  refine a_iload_n dX3_init_11 rfl 1 rfl ?_
  refine a_putiF kc4 0 dX3_init_12 (by decide) rfl w_fieldLink_RainCover_Gauge_15 rfl rfl rfl rfl (fun h2 => ?_)
  refine a_aload_n dX3_init_15 rfl 0 rfl ?_
  refine a_iload_n dX3_init_16 rfl 2 rfl ?_
  refine a_putiF kc4 1 dX3_init_17 (by decide) rfl w_fieldLink_RainCover_Gauge_18 rfl rfl rfl rfl (fun h3 => ?_)
  refine a_aload_n dX3_init_20 rfl 0 rfl ?_
  refine a_iload_n dX3_init_21 rfl 3 rfl ?_
  refine a_putiF kc4 2 dX3_init_22 (by decide) rfl w_fieldLink_RainCover_Gauge_21 rfl rfl rfl rfl (fun h4 => ?_)
  exact a_vret dX3_init_25 rfl rfl (by decide) (by decide)
theorem dJ8_newLength_cabcc_0 : decode cJ8_newLength_cabcc 0 = .ok (.iload_n 0, 1) := by decide +kernel
theorem dJ8_newLength_cabcc_1 : decode cJ8_newLength_cabcc 1 = .ok (.iload_n 1, 1) := by decide +kernel
theorem dJ8_newLength_cabcc_2 : decode cJ8_newLength_cabcc 2 = .ok (.iload_n 2, 1) := by decide +kernel
theorem dJ8_newLength_cabcc_3 : decode cJ8_newLength_cabcc 3 = .ok (.invokestatic 194, 3) := by decide +kernel
theorem dJ8_newLength_cabcc_6 : decode cJ8_newLength_cabcc 6 = .ok (.iadd, 1) := by decide +kernel
theorem dJ8_newLength_cabcc_7 : decode cJ8_newLength_cabcc 7 = .ok (.istore_n 3, 1) := by decide +kernel
theorem dJ8_newLength_cabcc_8 : decode cJ8_newLength_cabcc 8 = .ok (.iconst 0, 1) := by decide +kernel
theorem dJ8_newLength_cabcc_9 : decode cJ8_newLength_cabcc 9 = .ok (.iload_n 3, 1) := by decide +kernel
theorem dJ8_newLength_cabcc_10 : decode cJ8_newLength_cabcc 10 = .ok (.if_icmp .ge 11, 3) := by decide +kernel
theorem dJ8_newLength_cabcc_13 : decode cJ8_newLength_cabcc 13 = .ok (.iload_n 3, 1) := by decide +kernel
theorem dJ8_newLength_cabcc_14 : decode cJ8_newLength_cabcc 14 = .ok (.ldc 200, 2) := by decide +kernel
theorem dJ8_newLength_cabcc_16 : decode cJ8_newLength_cabcc 16 = .ok (.if_icmp .gt 5, 3) := by decide +kernel
theorem dJ8_newLength_cabcc_19 : decode cJ8_newLength_cabcc 19 = .ok (.iload_n 3, 1) := by decide +kernel
theorem dJ8_newLength_cabcc_20 : decode cJ8_newLength_cabcc 20 = .ok (.ireturn, 1) := by decide +kernel
theorem dJ8_newLength_cabcc_21 : decode cJ8_newLength_cabcc 21 = .ok (.iload_n 0, 1) := by decide +kernel
theorem dJ8_newLength_cabcc_22 : decode cJ8_newLength_cabcc 22 = .ok (.iload_n 1, 1) := by decide +kernel
theorem dJ8_newLength_cabcc_23 : decode cJ8_newLength_cabcc 23 = .ok (.invokestatic 201, 3) := by decide +kernel
abbrev M_J8_newLength_cabcc : MI := (RJ8, cJ8_newLength_cabcc, 4, (some .int), ({ frames := 1, cells := 0, slots := 0, locals := 21 } : Room), 0, 0, false)
def f_J8_newLength_cabcc_b21 (h : AH) (x0 : Int32) (x1 : Int32) : Option Int32 := none
def f_J8_newLength_cabcc (h : AH) (p0 : Int32) (p1 : Int32) (p2 : Int32) : Option Int32 := (if (p0 + (if p1 < p2 then p2 else p1)) ≤ 0 then f_J8_newLength_cabcc_b21 h p0 p1 else (if 2147483639 < (p0 + (if p1 < p2 then p2 else p1)) then f_J8_newLength_cabcc_b21 h p0 p1 else some (p0 + (if p1 < p2 then p2 else p1))))
theorem km_J8_newLength_cabcc : KM yJ8_newLength_cabcc M_J8_newLength_cabcc 3 := ⟨in_tb 261 (by decide +kernel) rfl, in_tb 11 (by decide +kernel) rfl, by decide +kernel, rfl, rfl⟩
theorem hm_J8_newLength_cabcc : M_J8_newLength_cabcc.2.2.2.2.2.1 = 0 ∧ M_J8_newLength_cabcc.2.2.2.2.2.2.1 = 0 := ⟨rfl, rfl⟩
section
variable {l : Launch} {g : GG}
set_option maxRecDepth 100000 in
set_option maxHeartbeats 4000000 in
theorem t_J8_newLength_cabcc_b21 (h : AH) (x0 : Int32) (x1 : Int32) : AO l g M_J8_newLength_cabcc false h 21 [(0, .int x0), (1, .int x1)] [] h 0 0 (rPi h) (f_J8_newLength_cabcc_b21 h  x0 x1) := by
  unfold f_J8_newLength_cabcc_b21
  refine a_iload_n dJ8_newLength_cabcc_21 rfl 0 rfl ?_
  refine a_iload_n dJ8_newLength_cabcc_22 rfl 1 rfl ?_
  exact a_none
end
set_option maxRecDepth 100000 in
set_option maxHeartbeats 4000000 in
theorem c_J8_newLength_cabcc (l : Launch) (g : GG) (h : AH) (p0 : Int32) (p1 : Int32) (p2 : Int32) : CN l g yJ8_newLength_cabcc M_J8_newLength_cabcc false [.int p0, .int p1, .int p2] h ((rPi h)) (f_J8_newLength_cabcc h p0 p1 p2) := by
  refine CN.of (by decide) rfl (fun hh => by first | rfl | cases hh) (Nat.le_of_ble_eq_true rfl) ?_
  unfold f_J8_newLength_cabcc
  refine a_iload_n dJ8_newLength_cabcc_0 rfl 0 rfl ?_
  refine a_iload_n dJ8_newLength_cabcc_1 rfl 1 rfl ?_
  refine a_iload_n dJ8_newLength_cabcc_2 rfl 2 rfl ?_
  refine a_mmax dJ8_newLength_cabcc_3 w_methodLink_jdk_internal_util_ArraysSupport_194 w_static_java_lang_Math_max__II_I w_initialized_java_lang_Math w_code_java_lang_Math_max__II_I (by decide) (by decide) (by decide) (by decide) (Nat.le_of_ble_eq_true rfl) ?_
  refine a_iadd dJ8_newLength_cabcc_6 ?_
  refine a_istore_n (lc2 := [(3, .int (p0 + (if p1 < p2 then p2 else p1))), (0, .int p0), (1, .int p1), (2, .int p2)]) dJ8_newLength_cabcc_7 rfl (by decide) rfl ?_
  refine a_iconst (v := 0) dJ8_newLength_cabcc_8 (by decide) ?_
  refine a_iload_n dJ8_newLength_cabcc_9 rfl 0 rfl ?_
  refine a_icmp_ge 21 dJ8_newLength_cabcc_10 (by decide) (fun c1 => ?_) (fun c1 => ?_)
  · refine a_pick (lc2 := [(0, .int p0), (1, .int p1)]) [1, 2] rfl ?_
    exact t_J8_newLength_cabcc_b21 h p0 p1
  · refine a_iload_n dJ8_newLength_cabcc_13 rfl 0 rfl ?_
    refine a_ldc (v := 2147483639) dJ8_newLength_cabcc_14 w_constant_jdk_internal_util_ArraysSupport_200 ?_
    refine a_icmp_gt 21 dJ8_newLength_cabcc_16 (by decide) (fun c2 => ?_) (fun c2 => ?_)
    · refine a_pick (lc2 := [(0, .int p0), (1, .int p1)]) [1, 2] rfl ?_
      exact t_J8_newLength_cabcc_b21 h p0 p1
    · refine a_iload_n dJ8_newLength_cabcc_19 rfl 0 rfl ?_
      exact a_iret dJ8_newLength_cabcc_20 rfl rfl (by decide) (by decide)
theorem dJ7_copyOf_6403c_0 : decode cJ7_copyOf_6403c 0 = .ok (.aload_n 2, 1) := by decide +kernel
theorem dJ7_copyOf_6403c_1 : decode cJ7_copyOf_6403c 1 = .ok (.ldc 110, 2) := by decide +kernel
theorem dJ7_copyOf_6403c_3 : decode cJ7_copyOf_6403c 3 = .ok (.if_acmp .ne 10, 3) := by decide +kernel
theorem dJ7_copyOf_6403c_6 : decode cJ7_copyOf_6403c 6 = .ok (.iload_n 1, 1) := by decide +kernel
theorem dJ7_copyOf_6403c_7 : decode cJ7_copyOf_6403c 7 = .ok (.anewarray 2, 3) := by decide +kernel
theorem dJ7_copyOf_6403c_10 : decode cJ7_copyOf_6403c 10 = .ok (.goto 14, 3) := by decide +kernel
theorem dJ7_copyOf_6403c_24 : decode cJ7_copyOf_6403c 24 = .ok (.astore_n 3, 1) := by decide +kernel
theorem dJ7_copyOf_6403c_25 : decode cJ7_copyOf_6403c 25 = .ok (.aload_n 0, 1) := by decide +kernel
theorem dJ7_copyOf_6403c_26 : decode cJ7_copyOf_6403c 26 = .ok (.iconst 0, 1) := by decide +kernel
theorem dJ7_copyOf_6403c_27 : decode cJ7_copyOf_6403c 27 = .ok (.aload_n 3, 1) := by decide +kernel
theorem dJ7_copyOf_6403c_28 : decode cJ7_copyOf_6403c 28 = .ok (.iconst 0, 1) := by decide +kernel
theorem dJ7_copyOf_6403c_29 : decode cJ7_copyOf_6403c 29 = .ok (.aload_n 0, 1) := by decide +kernel
theorem dJ7_copyOf_6403c_30 : decode cJ7_copyOf_6403c 30 = .ok (.arraylength, 1) := by decide +kernel
theorem dJ7_copyOf_6403c_31 : decode cJ7_copyOf_6403c 31 = .ok (.iload_n 1, 1) := by decide +kernel
theorem dJ7_copyOf_6403c_32 : decode cJ7_copyOf_6403c 32 = .ok (.invokestatic 304, 3) := by decide +kernel
theorem dJ7_copyOf_6403c_35 : decode cJ7_copyOf_6403c 35 = .ok (.invokestatic 150, 3) := by decide +kernel
theorem dJ7_copyOf_6403c_38 : decode cJ7_copyOf_6403c 38 = .ok (.aload_n 3, 1) := by decide +kernel
theorem dJ7_copyOf_6403c_39 : decode cJ7_copyOf_6403c 39 = .ok (.areturn, 1) := by decide +kernel
abbrev M_J7_copyOf_6403c : MI := (RJ7, cJ7_copyOf_6403c, 4, (some (.array (.object "java/lang/Object"))), ({ frames := 1, cells := 1, slots := 40, locals := 30 } : Room), 1, 40, false)
def f_J7_copyOf_6403c_b24 (h : AH) (x0 : Nat) (x1 : Int32) (s2 : Nat) : Option (Nat × AH) := (xal h x0).bind fun v3 => (xcpq h x0 0 s2 0 (if x1 < v3 then x1 else v3)).bind fun h4 => some (s2, h4)
def f_J7_copyOf_6403c (h0 : AH) (p0 : Nat) (p1 : Int32) (p2 : Nat) : Option (Nat × AH) := (if p2 = 9300 then (if (p1 : Int32).toNatClampNeg ≤ 40 then (gl h0 [p0, p2]).bind fun _ => (xna h0 (p0 + 1) 3 p1).bind fun h1 => f_J7_copyOf_6403c_b24 h1 p0 p1 (p0 + 1) else none) else none)
theorem km_J7_copyOf_6403c : KM yJ7_copyOf_6403c M_J7_copyOf_6403c 3 := ⟨in_tb 292 (by decide +kernel) rfl, in_tb 13 (by decide +kernel) rfl, by decide +kernel, rfl, rfl⟩
section
variable {l : Launch} {g : GG}
set_option maxRecDepth 100000 in
set_option maxHeartbeats 4000000 in
theorem t_J7_copyOf_6403c_b24 (h0 : AH) (h : AH) (x0 : Nat) (x1 : Int32) (s2 : Nat) : AO l g M_J7_copyOf_6403c true h0 24 [(0, .ref x0), (1, .int x1)] [.ref s2] h 1 40 rSr (f_J7_copyOf_6403c_b24  h x0 x1 s2) := by
  unfold f_J7_copyOf_6403c_b24
  refine a_astore_n (lc2 := [(3, .ref s2), (0, .ref x0), (1, .int x1)]) dJ7_copyOf_6403c_24 rfl (by decide) rfl ?_
  refine a_aload_n dJ7_copyOf_6403c_25 rfl 1 rfl ?_
  refine a_iconst (v := 0) dJ7_copyOf_6403c_26 (by decide) ?_
  refine a_aload_n dJ7_copyOf_6403c_27 rfl 0 rfl ?_
  refine a_iconst (v := 0) dJ7_copyOf_6403c_28 (by decide) ?_
  refine a_aload_n dJ7_copyOf_6403c_29 rfl 1 rfl ?_
  refine a_alen dJ7_copyOf_6403c_30 (fun v3 => ?_)
  refine a_iload_n dJ7_copyOf_6403c_31 rfl 2 rfl ?_
  refine a_mmin dJ7_copyOf_6403c_32 w_methodLink_java_util_Arrays_304 w_static_java_lang_Math_min__II_I w_initialized_java_lang_Math w_code_java_lang_Math_min__II_I (by decide) (by decide) (by decide) (by decide) (Nat.le_of_ble_eq_true rfl) ?_
  refine a_cpyq dJ7_copyOf_6403c_35 w_methodLink_java_util_Arrays_150 w_native_java_lang_System_arraycopy__Ljava_lang_Object_ILjava_lang_Object_II_V w_static_java_lang_System_arraycopy__Ljava_lang_Object_ILjava_lang_Object_II_V w_initialized_java_lang_System (by decide) (by decide) (Nat.le_of_ble_eq_true rfl) (fun h4 => ?_)
  refine a_aload_n dJ7_copyOf_6403c_38 rfl 0 rfl ?_
  exact a_aret dJ7_copyOf_6403c_39 rfl (Or.inr ⟨_, rfl⟩) rfl (by decide) (by decide)
end
set_option maxRecDepth 100000 in
set_option maxHeartbeats 4000000 in
theorem c_J7_copyOf_6403c (l : Launch) (g : GG) (h0 : AH) (p0 : Nat) (p1 : Int32) (p2 : Nat) : CN l g yJ7_copyOf_6403c M_J7_copyOf_6403c true [.ref p0, .int p1, .ref p2] h0 rSr (f_J7_copyOf_6403c h0 p0 p1 p2) := by
  refine CN.of (by decide) rfl (fun hh => by first | rfl | cases hh) (Nat.le_of_ble_eq_true rfl) ?_
  unfold f_J7_copyOf_6403c
  refine a_aload_n dJ7_copyOf_6403c_0 rfl 2 rfl ?_
  refine a_ldcM dJ7_copyOf_6403c_1 w_classLink_java_util_Arrays_110 ?_
  refine a_acmp_neE (tgt := 13) dJ7_copyOf_6403c_3 (by decide) ?_
  refine a_iload_n dJ7_copyOf_6403c_6 rfl 1 rfl ?_
  refine a_gd (fun b2 => ?_)
  refine a_newq3 (r := (p0 + 1)) [p0, p2] rfl dJ7_copyOf_6403c_7 w_classLink_java_util_Arrays_2 (by decide) (Nat.le_trans (Nat.add_le_add_left b2 _) (by decide)) (fun h1 => ?_)
  refine a_widen 1 40 (by decide) (Nat.add_le_add_left b2 _) ?_
  refine a_goto 24 dJ7_copyOf_6403c_10 (by decide) ?_
  refine a_pick (lc2 := [(0, .ref p0), (1, .int p1)]) [0, 1] rfl ?_
  exact t_J7_copyOf_6403c_b24 h0 h1 p0 p1 (p0 + 1)
theorem dJ7_copyOf_1904c_0 : decode cJ7_copyOf_1904c 0 = .ok (.aload_n 0, 1) := by decide +kernel
theorem dJ7_copyOf_1904c_1 : decode cJ7_copyOf_1904c 1 = .ok (.iload_n 1, 1) := by decide +kernel
theorem dJ7_copyOf_1904c_2 : decode cJ7_copyOf_1904c 2 = .ok (.aload_n 0, 1) := by decide +kernel
theorem dJ7_copyOf_1904c_3 : decode cJ7_copyOf_1904c 3 = .ok (.invokevirtual 86, 3) := by decide +kernel
theorem dJ7_copyOf_1904c_6 : decode cJ7_copyOf_1904c 6 = .ok (.invokestatic 300, 3) := by decide +kernel
theorem dJ7_copyOf_1904c_9 : decode cJ7_copyOf_1904c 9 = .ok (.areturn, 1) := by decide +kernel
abbrev M_J7_copyOf_1904c : MI := (RJ7, cJ7_copyOf_1904c, 2, (some (.array (.object "java/lang/Object"))), ({ frames := 2, cells := 1, slots := 40, locals := 53 } : Room), 1, 40, false)
def f_J7_copyOf_1904c (h0 : AH) (p0 : Nat) (p1 : Int32) : Option (Nat × AH) := (xgC h0 p0).bind fun _ => (gl h0 [p0]).bind fun _ => (f_J7_copyOf_6403c h0 p0 p1 9300).bind fun q1 => some (q1.1, q1.2)
theorem km_J7_copyOf_1904c : KM yJ7_copyOf_1904c M_J7_copyOf_1904c 2 := ⟨in_tb 271 (by decide +kernel) rfl, in_tb 13 (by decide +kernel) rfl, by decide +kernel, rfl, rfl⟩
section
variable {l : Launch} {g : GG}
end
set_option maxRecDepth 100000 in
set_option maxHeartbeats 4000000 in
theorem c_J7_copyOf_1904c (l : Launch) (g : GG) (h0 : AH) (p0 : Nat) (p1 : Int32) : CN l g yJ7_copyOf_1904c M_J7_copyOf_1904c true [.ref p0, .int p1] h0 rSr (f_J7_copyOf_1904c h0 p0 p1) := by
  refine CN.of (by decide) rfl (fun hh => by first | rfl | cases hh) (Nat.le_of_ble_eq_true rfl) ?_
  unfold f_J7_copyOf_1904c
  refine a_aload_n dJ7_copyOf_1904c_0 rfl 0 rfl ?_
  refine a_iload_n dJ7_copyOf_1904c_1 rfl 1 rfl ?_
  refine a_aload_n dJ7_copyOf_1904c_2 rfl 0 rfl ?_
  refine a_getC dJ7_copyOf_1904c_3 w_methodLink_java_util_Arrays_86 w_selects__Ljava_lang_Object__java_lang_Object_getClass___Ljava_lang_Class__java_lang_Object_getClass___Ljava_lang_Class_ w_instanceMethod_java_lang_Object_getClass___Ljava_lang_Class_ w_native_java_lang_Object_getClass___Ljava_lang_Class_ (by decide) (by decide) (Nat.le_of_ble_eq_true rfl) ?_
  refine a_xS_Sr (as := [.ref p0, .int p1, .ref 9300]) (st := []) dJ7_copyOf_1904c_6 [p0] rfl (c_J7_copyOf_6403c l g h0 p0 p1 9300) rfl km_J7_copyOf_6403c w_methodLink_java_util_Arrays_300 w_static_java_util_Arrays_copyOf___Ljava_lang_Object_ILjava_lang_Class___Ljava_lang_Object_ ⟨⟨by decide, by decide⟩, ⟨by decide, by decide⟩⟩ (Nat.le_of_ble_eq_true rfl) (fun q1 => ?_)
  refine a_widen 1 40 (by decide) (by decide) ?_
  exact a_aret dJ7_copyOf_1904c_9 rfl (Or.inr ⟨_, rfl⟩) rfl (by decide) (by decide)
theorem dJx4a65c_grow_92f84_0 : decode cJx4a65c_grow_92f84 0 = .ok (.aload_n 0, 1) := by decide +kernel
theorem dJx4a65c_grow_92f84_1 : decode cJx4a65c_grow_92f84 1 = .ok (.getfield 9, 3) := by decide +kernel
theorem dJx4a65c_grow_92f84_4 : decode cJx4a65c_grow_92f84 4 = .ok (.arraylength, 1) := by decide +kernel
theorem dJx4a65c_grow_92f84_5 : decode cJx4a65c_grow_92f84 5 = .ok (.istore_n 2, 1) := by decide +kernel
theorem dJx4a65c_grow_92f84_6 : decode cJx4a65c_grow_92f84 6 = .ok (.iload_n 2, 1) := by decide +kernel
theorem dJx4a65c_grow_92f84_7 : decode cJx4a65c_grow_92f84 7 = .ok (.ifCond .gt 13, 3) := by decide +kernel
theorem dJx4a65c_grow_92f84_10 : decode cJx4a65c_grow_92f84 10 = .ok (.aload_n 0, 1) := by decide +kernel
theorem dJx4a65c_grow_92f84_11 : decode cJx4a65c_grow_92f84 11 = .ok (.getfield 9, 3) := by decide +kernel
theorem dJx4a65c_grow_92f84_14 : decode cJx4a65c_grow_92f84 14 = .ok (.getstatic 39, 3) := by decide +kernel
theorem dJx4a65c_grow_92f84_17 : decode cJx4a65c_grow_92f84 17 = .ok (.if_acmp .eq 28, 3) := by decide +kernel
theorem dJx4a65c_grow_92f84_20 : decode cJx4a65c_grow_92f84 20 = .ok (.iload_n 2, 1) := by decide +kernel
theorem dJx4a65c_grow_92f84_21 : decode cJx4a65c_grow_92f84 21 = .ok (.iload_n 1, 1) := by decide +kernel
theorem dJx4a65c_grow_92f84_22 : decode cJx4a65c_grow_92f84 22 = .ok (.iload_n 2, 1) := by decide +kernel
theorem dJx4a65c_grow_92f84_23 : decode cJx4a65c_grow_92f84 23 = .ok (.isub, 1) := by decide +kernel
theorem dJx4a65c_grow_92f84_24 : decode cJx4a65c_grow_92f84 24 = .ok (.iload_n 2, 1) := by decide +kernel
theorem dJx4a65c_grow_92f84_25 : decode cJx4a65c_grow_92f84 25 = .ok (.iconst 1, 1) := by decide +kernel
theorem dJx4a65c_grow_92f84_26 : decode cJx4a65c_grow_92f84 26 = .ok (.ishr, 1) := by decide +kernel
theorem dJx4a65c_grow_92f84_27 : decode cJx4a65c_grow_92f84 27 = .ok (.invokestatic 73, 3) := by decide +kernel
theorem dJx4a65c_grow_92f84_30 : decode cJx4a65c_grow_92f84 30 = .ok (.istore_n 3, 1) := by decide +kernel
theorem dJx4a65c_grow_92f84_31 : decode cJx4a65c_grow_92f84 31 = .ok (.aload_n 0, 1) := by decide +kernel
theorem dJx4a65c_grow_92f84_32 : decode cJx4a65c_grow_92f84 32 = .ok (.aload_n 0, 1) := by decide +kernel
theorem dJx4a65c_grow_92f84_33 : decode cJx4a65c_grow_92f84 33 = .ok (.getfield 9, 3) := by decide +kernel
theorem dJx4a65c_grow_92f84_36 : decode cJx4a65c_grow_92f84 36 = .ok (.iload_n 3, 1) := by decide +kernel
theorem dJx4a65c_grow_92f84_37 : decode cJx4a65c_grow_92f84 37 = .ok (.invokestatic 66, 3) := by decide +kernel
theorem dJx4a65c_grow_92f84_40 : decode cJx4a65c_grow_92f84 40 = .ok (.dup_x1, 1) := by decide +kernel
theorem dJx4a65c_grow_92f84_41 : decode cJx4a65c_grow_92f84 41 = .ok (.putfield 9, 3) := by decide +kernel
theorem dJx4a65c_grow_92f84_44 : decode cJx4a65c_grow_92f84 44 = .ok (.areturn, 1) := by decide +kernel
theorem dJx4a65c_grow_92f84_45 : decode cJx4a65c_grow_92f84 45 = .ok (.aload_n 0, 1) := by decide +kernel
theorem dJx4a65c_grow_92f84_46 : decode cJx4a65c_grow_92f84 46 = .ok (.bipush 10, 2) := by decide +kernel
theorem dJx4a65c_grow_92f84_48 : decode cJx4a65c_grow_92f84 48 = .ok (.iload_n 1, 1) := by decide +kernel
theorem dJx4a65c_grow_92f84_49 : decode cJx4a65c_grow_92f84 49 = .ok (.invokestatic 79, 3) := by decide +kernel
theorem dJx4a65c_grow_92f84_52 : decode cJx4a65c_grow_92f84 52 = .ok (.anewarray 7, 3) := by decide +kernel
theorem dJx4a65c_grow_92f84_55 : decode cJx4a65c_grow_92f84 55 = .ok (.dup_x1, 1) := by decide +kernel
theorem dJx4a65c_grow_92f84_56 : decode cJx4a65c_grow_92f84 56 = .ok (.putfield 9, 3) := by decide +kernel
theorem dJx4a65c_grow_92f84_59 : decode cJx4a65c_grow_92f84 59 = .ok (.areturn, 1) := by decide +kernel
abbrev M_Jx4a65c_grow_92f84 : MI := (RJx4a65c, cJx4a65c_grow_92f84, 4, (some (.array (.object "java/lang/Object"))), ({ frames := 3, cells := 1, slots := 40, locals := 74 } : Room), 1, 40, false)
def f_Jx4a65c_grow_92f84_b20 (h : AH) (x0 : Nat) (x1 : Int32) (x2 : Int32) : Option (Nat × AH) := (f_J8_newLength_cabcc h x2 (x1 - x2) (x2 >>> (1 &&& 31))).bind fun v8 => (xgr h x0 0 1).bind fun v9 => (gl h [x0, x0]).bind fun _ => (f_J7_copyOf_1904c h v9 v8).bind fun q10 => (xpr q10.2 x0 0 1 q10.1).bind fun h11 => some (q10.1, h11)
def f_Jx4a65c_grow_92f84 (h0 : AH) (p0 : Nat) (p1 : Int32) : Option (Nat × AH) := if kd h0 p0 = 0 + 1 then (xgr h0 p0 0 1).bind fun v1 => (xal h0 v1).bind fun v2 => (if 0 < v2 then f_Jx4a65c_grow_92f84_b20 h0 p0 p1 v2 else (xgr h0 p0 0 1).bind fun v4 => (if v4 = 9200 then (if ((if 10 < p1 then p1 else 10) : Int32).toNatClampNeg ≤ 40 then (gl h0 [p0, p0]).bind fun _ => (xna h0 (400 + 8 * p0) 3 (if 10 < p1 then p1 else 10)).bind fun h5 => (xpr h5 p0 0 1 (400 + 8 * p0)).bind fun h7 => some ((400 + 8 * p0), h7) else none) else none)) else none
theorem g_Jx4a65c_grow_92f84 {h0 : AH} {p0 : Nat} {p1 : Int32} {x : (Nat × AH)} (e : f_Jx4a65c_grow_92f84 h0 p0 p1 = some x) : kd h0 p0 = 0 + 1 := by
  unfold f_Jx4a65c_grow_92f84 at e
  by_cases hk : kd h0 p0 = 0 + 1
  · exact hk
  · rw [if_neg hk] at e
    cases e
theorem km_Jx4a65c_grow_92f84 : KM yJx4a65c_grow_92f84 M_Jx4a65c_grow_92f84 1 := ⟨in_tb 258 (by decide +kernel) rfl, in_tb 4 (by decide +kernel) rfl, by decide +kernel, rfl, rfl⟩
section
variable {l : Launch} {g : GG}
set_option maxRecDepth 100000 in
set_option maxHeartbeats 4000000 in
theorem t_Jx4a65c_grow_92f84_b20 (h0 : AH) (h : AH) (x0 : Nat) (x1 : Int32) (x2 : Int32) : AO l g M_Jx4a65c_grow_92f84 true h0 20 [(0, .ref x0), (1, .int x1), (2, .int x2)] [] h 0 0 rSr (f_Jx4a65c_grow_92f84_b20  h x0 x1 x2) := by
  unfold f_Jx4a65c_grow_92f84_b20
  refine a_iload_n dJx4a65c_grow_92f84_20 rfl 2 rfl ?_
  refine a_iload_n dJx4a65c_grow_92f84_21 rfl 1 rfl ?_
  refine a_iload_n dJx4a65c_grow_92f84_22 rfl 2 rfl ?_
  refine a_isub dJx4a65c_grow_92f84_23 ?_
  refine a_iload_n dJx4a65c_grow_92f84_24 rfl 2 rfl ?_
  refine a_iconst (v := 1) dJx4a65c_grow_92f84_25 (by decide) ?_
  refine a_ishr dJx4a65c_grow_92f84_26 ?_
  refine a_cS_Pi (as := [.int x2, .int (x1 - x2), .int (x2 >>> (1 &&& 31))]) (st := []) dJx4a65c_grow_92f84_27 (c_J8_newLength_cabcc l g h x2 (x1 - x2) (x2 >>> (1 &&& 31))) rfl km_J8_newLength_cabcc (hm_J8_newLength_cabcc) w_methodLink_java_util_ArrayList_73 w_static_jdk_internal_util_ArraysSupport_newLength__III_I ⟨⟨by decide, by decide⟩, ⟨by decide, by decide⟩⟩ (Nat.le_of_ble_eq_true rfl) (fun v8 => ?_)
  refine a_istore_n (lc2 := [(3, .int v8), (0, .ref x0), (1, .int x1), (2, .int x2)]) dJx4a65c_grow_92f84_30 rfl (by decide) rfl ?_
  refine a_aload_n dJx4a65c_grow_92f84_31 rfl 1 rfl ?_
  refine a_aload_n dJx4a65c_grow_92f84_32 rfl 1 rfl ?_
  refine a_getr kc0 1 dJx4a65c_grow_92f84_33 (by decide) rfl w_fieldLink_java_util_ArrayList_9 (fun v9 => ?_)
  refine a_iload_n dJx4a65c_grow_92f84_36 rfl 0 rfl ?_
  refine a_xS_Sr (as := [.ref v9, .int v8]) (st := [.ref x0]) dJx4a65c_grow_92f84_37 [x0, x0] rfl (c_J7_copyOf_1904c l g h v9 v8) rfl km_J7_copyOf_1904c w_methodLink_java_util_ArrayList_66 w_static_java_util_Arrays_copyOf___Ljava_lang_Object_I__Ljava_lang_Object_ ⟨⟨by decide, by decide⟩, ⟨by decide, by decide⟩⟩ (Nat.le_of_ble_eq_true rfl) (fun q10 => ?_)
  refine a_widen 1 40 (by decide) (by decide) ?_
  refine a_dup_x1 dJx4a65c_grow_92f84_40 rfl rfl ?_
  refine a_putr kc0 1 dJx4a65c_grow_92f84_41 (by decide) rfl w_fieldLink_java_util_ArrayList_9 (fun _ => ⟨rfl, rfl⟩) rfl (fun h11 => ?_)
  exact a_aret dJx4a65c_grow_92f84_44 rfl (Or.inr ⟨_, rfl⟩) rfl (by decide) (by decide)
end
set_option maxRecDepth 100000 in
set_option maxHeartbeats 4000000 in
theorem c_Jx4a65c_grow_92f84 (l : Launch) (g : GG) (h0 : AH) (p0 : Nat) (p1 : Int32) : CN l g yJx4a65c_grow_92f84 M_Jx4a65c_grow_92f84 true [.ref p0, .int p1] h0 rSr (f_Jx4a65c_grow_92f84 h0 p0 p1) := by
  refine CN.of (by decide) rfl (fun hh => by first | rfl | cases hh) (Nat.le_of_ble_eq_true rfl) ?_
  unfold f_Jx4a65c_grow_92f84
  refine a_gd (fun hkd => ?_)
  refine a_aload_n dJx4a65c_grow_92f84_0 rfl 0 rfl ?_
  refine a_getr kc0 1 dJx4a65c_grow_92f84_1 (by decide) rfl w_fieldLink_java_util_ArrayList_9 (fun v1 => ?_)
  refine a_alen dJx4a65c_grow_92f84_4 (fun v2 => ?_)
  refine a_istore_n (lc2 := [(2, .int v2), (0, .ref p0), (1, .int p1)]) dJx4a65c_grow_92f84_5 rfl (by decide) rfl ?_
  refine a_iload_n dJx4a65c_grow_92f84_6 rfl 0 rfl ?_
  refine a_if_gt 20 dJx4a65c_grow_92f84_7 (by decide) (fun c3 => ?_) (fun c3 => ?_)
  · refine a_pick (lc2 := [(0, .ref p0), (1, .int p1), (2, .int v2)]) [1, 2, 0] rfl ?_
    exact t_Jx4a65c_grow_92f84_b20 h0 h0 p0 p1 v2
  · refine a_aload_n dJx4a65c_grow_92f84_10 rfl 1 rfl ?_
    refine a_getr kc0 1 dJx4a65c_grow_92f84_11 (by decide) rfl w_fieldLink_java_util_ArrayList_9 (fun v4 => ?_)
    refine a_gs3 dJx4a65c_grow_92f84_14 w_fieldLink_java_util_ArrayList_39 ?_
    refine a_acmp_eqE 45 dJx4a65c_grow_92f84_17 (by decide) ?_
    refine a_aload_n dJx4a65c_grow_92f84_45 rfl 1 rfl ?_
    refine a_bipush (v := 10) dJx4a65c_grow_92f84_46 (by decide) ?_
    refine a_iload_n dJx4a65c_grow_92f84_48 rfl 2 rfl ?_
    refine a_mmax dJx4a65c_grow_92f84_49 w_methodLink_java_util_ArrayList_79 w_static_java_lang_Math_max__II_I w_initialized_java_lang_Math w_code_java_lang_Math_max__II_I (by decide) (by decide) (by decide) (by decide) (Nat.le_of_ble_eq_true rfl) ?_
    refine a_gd (fun b6 => ?_)
    refine a_newq3 (r := (400 + 8 * p0)) [p0, p0] rfl dJx4a65c_grow_92f84_52 w_classLink_java_util_ArrayList_7 (by decide) (Nat.le_trans (Nat.add_le_add_left b6 _) (by decide)) (fun h5 => ?_)
    refine a_widen 1 40 (by decide) (Nat.add_le_add_left b6 _) ?_
    refine a_dup_x1 dJx4a65c_grow_92f84_55 rfl rfl ?_
    refine a_putr kc0 1 dJx4a65c_grow_92f84_56 (by decide) rfl w_fieldLink_java_util_ArrayList_9 (fun _ => ⟨rfl, rfl⟩) rfl (fun h7 => ?_)
    exact a_aret dJx4a65c_grow_92f84_59 rfl (Or.inr ⟨_, rfl⟩) rfl (by decide) (by decide)
theorem dJx4a65c_grow_d5877_0 : decode cJx4a65c_grow_d5877 0 = .ok (.aload_n 0, 1) := by decide +kernel
theorem dJx4a65c_grow_d5877_1 : decode cJx4a65c_grow_d5877 1 = .ok (.aload_n 0, 1) := by decide +kernel
theorem dJx4a65c_grow_d5877_2 : decode cJx4a65c_grow_d5877 2 = .ok (.getfield 48, 3) := by decide +kernel
theorem dJx4a65c_grow_d5877_5 : decode cJx4a65c_grow_d5877 5 = .ok (.iconst 1, 1) := by decide +kernel
theorem dJx4a65c_grow_d5877_6 : decode cJx4a65c_grow_d5877 6 = .ok (.iadd, 1) := by decide +kernel
theorem dJx4a65c_grow_d5877_7 : decode cJx4a65c_grow_d5877 7 = .ok (.invokevirtual 69, 3) := by decide +kernel
theorem dJx4a65c_grow_d5877_10 : decode cJx4a65c_grow_d5877 10 = .ok (.areturn, 1) := by decide +kernel
abbrev M_Jx4a65c_grow_d5877 : MI := (RJx4a65c, cJx4a65c_grow_d5877, 1, (some (.array (.object "java/lang/Object"))), ({ frames := 4, cells := 1, slots := 40, locals := 97 } : Room), 1, 40, false)
def f_Jx4a65c_grow_d5877 (h0 : AH) (p0 : Nat) : Option (Nat × AH) := if kd h0 p0 = 0 + 1 then (xgi h0 p0 0 2).bind fun v1 => (gl h0 [p0]).bind fun _ => (f_Jx4a65c_grow_92f84 h0 p0 (v1 + 1)).bind fun q2 => some (q2.1, q2.2) else none
theorem g_Jx4a65c_grow_d5877 {h0 : AH} {p0 : Nat} {x : (Nat × AH)} (e : f_Jx4a65c_grow_d5877 h0 p0 = some x) : kd h0 p0 = 0 + 1 := by
  unfold f_Jx4a65c_grow_d5877 at e
  by_cases hk : kd h0 p0 = 0 + 1
  · exact hk
  · rw [if_neg hk] at e
    cases e
theorem km_Jx4a65c_grow_d5877 : KM yJx4a65c_grow_d5877 M_Jx4a65c_grow_d5877 0 := ⟨in_tb 254 (by decide +kernel) rfl, in_tb 4 (by decide +kernel) rfl, by decide +kernel, rfl, rfl⟩
section
variable {l : Launch} {g : GG}
end
set_option maxRecDepth 100000 in
set_option maxHeartbeats 4000000 in
theorem c_Jx4a65c_grow_d5877 (l : Launch) (g : GG) (h0 : AH) (p0 : Nat) : CN l g yJx4a65c_grow_d5877 M_Jx4a65c_grow_d5877 true [.ref p0] h0 rSr (f_Jx4a65c_grow_d5877 h0 p0) := by
  refine CN.of (by decide) rfl (fun hh => by first | rfl | cases hh) (Nat.le_of_ble_eq_true rfl) ?_
  unfold f_Jx4a65c_grow_d5877
  refine a_gd (fun hkd => ?_)
  refine a_aload_n dJx4a65c_grow_d5877_0 rfl 0 rfl ?_
  refine a_aload_n dJx4a65c_grow_d5877_1 rfl 0 rfl ?_
  refine a_geti kc0 2 dJx4a65c_grow_d5877_2 (by decide) rfl w_fieldLink_java_util_ArrayList_48 (fun v1 => ?_)
  refine a_iconst (v := 1) dJx4a65c_grow_d5877_5 (by decide) ?_
  refine a_iadd dJx4a65c_grow_d5877_6 ?_
  refine a_xV_Sr (r := p0) (ci := 0) (as := [.int (v1 + 1)]) (st := []) dJx4a65c_grow_d5877_7 [p0] rfl (c_Jx4a65c_grow_92f84 l g h0 p0 (v1 + 1)) rfl km_Jx4a65c_grow_92f84 rfl (by decide) rfl (fun _ ee => g_Jx4a65c_grow_92f84 ee) w_methodLink_java_util_ArrayList_69 w_instanceMethod_java_util_ArrayList_grow__I__Ljava_lang_Object_ w_selects_java_util_ArrayList_java_util_ArrayList_grow__I__Ljava_lang_Object__java_util_ArrayList_grow__I__Ljava_lang_Object_ ⟨⟨by decide, by decide⟩, ⟨by decide, by decide⟩⟩ (Nat.le_of_ble_eq_true rfl) (fun q2 => ?_)
  refine a_widen 1 40 (by decide) (by decide) ?_
  exact a_aret dJx4a65c_grow_d5877_10 rfl (Or.inr ⟨_, rfl⟩) rfl (by decide) (by decide)
theorem dJx4a65c_add_72be8_0 : decode cJx4a65c_add_72be8 0 = .ok (.iload_n 3, 1) := by decide +kernel
theorem dJx4a65c_add_72be8_1 : decode cJx4a65c_add_72be8 1 = .ok (.aload_n 2, 1) := by decide +kernel
theorem dJx4a65c_add_72be8_2 : decode cJx4a65c_add_72be8 2 = .ok (.arraylength, 1) := by decide +kernel
theorem dJx4a65c_add_72be8_3 : decode cJx4a65c_add_72be8 3 = .ok (.if_icmp .ne 8, 3) := by decide +kernel
theorem dJx4a65c_add_72be8_6 : decode cJx4a65c_add_72be8 6 = .ok (.aload_n 0, 1) := by decide +kernel
theorem dJx4a65c_add_72be8_7 : decode cJx4a65c_add_72be8 7 = .ok (.invokevirtual 129, 3) := by decide +kernel
theorem dJx4a65c_add_72be8_10 : decode cJx4a65c_add_72be8 10 = .ok (.astore_n 2, 1) := by decide +kernel
theorem dJx4a65c_add_72be8_11 : decode cJx4a65c_add_72be8 11 = .ok (.aload_n 2, 1) := by decide +kernel
theorem dJx4a65c_add_72be8_12 : decode cJx4a65c_add_72be8 12 = .ok (.iload_n 3, 1) := by decide +kernel
theorem dJx4a65c_add_72be8_13 : decode cJx4a65c_add_72be8 13 = .ok (.aload_n 1, 1) := by decide +kernel
theorem dJx4a65c_add_72be8_14 : decode cJx4a65c_add_72be8 14 = .ok (.aastore, 1) := by decide +kernel
theorem dJx4a65c_add_72be8_15 : decode cJx4a65c_add_72be8 15 = .ok (.aload_n 0, 1) := by decide +kernel
theorem dJx4a65c_add_72be8_16 : decode cJx4a65c_add_72be8 16 = .ok (.iload_n 3, 1) := by decide +kernel
theorem dJx4a65c_add_72be8_17 : decode cJx4a65c_add_72be8 17 = .ok (.iconst 1, 1) := by decide +kernel
theorem dJx4a65c_add_72be8_18 : decode cJx4a65c_add_72be8 18 = .ok (.iadd, 1) := by decide +kernel
theorem dJx4a65c_add_72be8_19 : decode cJx4a65c_add_72be8 19 = .ok (.putfield 48, 3) := by decide +kernel
theorem dJx4a65c_add_72be8_22 : decode cJx4a65c_add_72be8 22 = .ok (.return_, 1) := by decide +kernel
abbrev M_Jx4a65c_add_72be8 : MI := (RJx4a65c, cJx4a65c_add_72be8, 4, none, ({ frames := 5, cells := 1, slots := 40, locals := 117 } : Room), 1, 40, false)
def f_Jx4a65c_add_72be8_b11 (h : AH) (x0 : Nat) (x1 : Nat) (x2 : Nat) (x3 : Int32) : Option AH := (xas h x2 x3 x1).bind fun h4 => (xpi h4 x0 0 2 (x3 + 1)).bind fun h5 => some h5
def f_Jx4a65c_add_72be8 (h0 : AH) (p0 : Nat) (p1 : Nat) (p2 : Nat) (p3 : Int32) : Option AH := if kd h0 p0 = 0 + 1 then (xal h0 p2).bind fun v1 => (if p3 = v1 then (gl h0 [p0, p1, p2]).bind fun _ => (f_Jx4a65c_grow_d5877 h0 p0).bind fun q3 => f_Jx4a65c_add_72be8_b11 q3.2 p0 p1 q3.1 p3 else f_Jx4a65c_add_72be8_b11 h0 p0 p1 p2 p3) else none
theorem g_Jx4a65c_add_72be8 {h0 : AH} {p0 : Nat} {p1 : Nat} {p2 : Nat} {p3 : Int32} {x : AH} (e : f_Jx4a65c_add_72be8 h0 p0 p1 p2 p3 = some x) : kd h0 p0 = 0 + 1 := by
  unfold f_Jx4a65c_add_72be8 at e
  by_cases hk : kd h0 p0 = 0 + 1
  · exact hk
  · rw [if_neg hk] at e
    cases e
theorem km_Jx4a65c_add_72be8 : KM yJx4a65c_add_72be8 M_Jx4a65c_add_72be8 3 := ⟨in_tb 250 (by decide +kernel) rfl, in_tb 4 (by decide +kernel) rfl, by decide +kernel, rfl, rfl⟩
section
variable {l : Launch} {g : GG}
set_option maxRecDepth 100000 in
set_option maxHeartbeats 4000000 in
theorem t_Jx4a65c_add_72be8_b11 (h0 : AH) (h : AH) (x0 : Nat) (x1 : Nat) (x2 : Nat) (x3 : Int32) : AO l g M_Jx4a65c_add_72be8 true h0 11 [(0, .ref x0), (1, .ref x1), (2, .ref x2), (3, .int x3)] [] h 1 40 rSv (f_Jx4a65c_add_72be8_b11  h x0 x1 x2 x3) := by
  unfold f_Jx4a65c_add_72be8_b11
  refine a_aload_n dJx4a65c_add_72be8_11 rfl 2 rfl ?_
  refine a_iload_n dJx4a65c_add_72be8_12 rfl 3 rfl ?_
  refine a_aload_n dJx4a65c_add_72be8_13 rfl 1 rfl ?_
  refine a_aast dJx4a65c_add_72be8_14 (fun h4 => ?_)
  refine a_aload_n dJx4a65c_add_72be8_15 rfl 0 rfl ?_
  refine a_iload_n dJx4a65c_add_72be8_16 rfl 3 rfl ?_
  refine a_iconst (v := 1) dJx4a65c_add_72be8_17 (by decide) ?_
  refine a_iadd dJx4a65c_add_72be8_18 ?_
  refine a_puti kc0 2 dJx4a65c_add_72be8_19 (by decide) rfl w_fieldLink_java_util_ArrayList_48 rfl rfl (fun h5 => ?_)
  exact a_vret dJx4a65c_add_72be8_22 rfl rfl (by decide) (by decide)
end
set_option maxRecDepth 100000 in
set_option maxHeartbeats 4000000 in
theorem c_Jx4a65c_add_72be8 (l : Launch) (g : GG) (h0 : AH) (p0 : Nat) (p1 : Nat) (p2 : Nat) (p3 : Int32) : CN l g yJx4a65c_add_72be8 M_Jx4a65c_add_72be8 true [.ref p0, .ref p1, .ref p2, .int p3] h0 rSv (f_Jx4a65c_add_72be8 h0 p0 p1 p2 p3) := by
  refine CN.of (by decide) rfl (fun hh => by first | rfl | cases hh) (Nat.le_of_ble_eq_true rfl) ?_
  unfold f_Jx4a65c_add_72be8
  refine a_gd (fun hkd => ?_)
  refine a_iload_n dJx4a65c_add_72be8_0 rfl 3 rfl ?_
  refine a_aload_n dJx4a65c_add_72be8_1 rfl 2 rfl ?_
  refine a_alen dJx4a65c_add_72be8_2 (fun v1 => ?_)
  refine a_icmp_ne 11 dJx4a65c_add_72be8_3 (by decide) (fun c2 => ?_) (fun c2 => ?_)
  · refine a_aload_n dJx4a65c_add_72be8_6 rfl 0 rfl ?_
    refine a_xV_Sr (r := p0) (ci := 0) (as := []) (st := []) dJx4a65c_add_72be8_7 [p0, p1, p2] rfl (c_Jx4a65c_grow_d5877 l g h0 p0) rfl km_Jx4a65c_grow_d5877 rfl (by decide) rfl (fun _ ee => g_Jx4a65c_grow_d5877 ee) w_methodLink_java_util_ArrayList_129 w_instanceMethod_java_util_ArrayList_grow____Ljava_lang_Object_ w_selects_java_util_ArrayList_java_util_ArrayList_grow____Ljava_lang_Object__java_util_ArrayList_grow____Ljava_lang_Object_ ⟨⟨by decide, by decide⟩, ⟨by decide, by decide⟩⟩ (Nat.le_of_ble_eq_true rfl) (fun q3 => ?_)
    refine a_widen 1 40 (by decide) (by decide) ?_
    refine a_astore_n (lc2 := [(2, .ref q3.1), (0, .ref p0), (1, .ref p1), (3, .int p3)]) dJx4a65c_add_72be8_10 rfl (by decide) rfl ?_
    refine a_pick (lc2 := [(0, .ref p0), (1, .ref p1), (2, .ref q3.1), (3, .int p3)]) [1, 2, 0, 3] rfl ?_
    exact t_Jx4a65c_add_72be8_b11 h0 q3.2 p0 p1 q3.1 p3
  · refine a_widen 1 40 (by decide) (by decide) ?_
    exact t_Jx4a65c_add_72be8_b11 h0 h0 p0 p1 p2 p3
theorem dJx4a65c_add_9ea2d_0 : decode cJx4a65c_add_9ea2d 0 = .ok (.aload_n 0, 1) := by decide +kernel
theorem dJx4a65c_add_9ea2d_1 : decode cJx4a65c_add_9ea2d 1 = .ok (.dup, 1) := by decide +kernel
theorem dJx4a65c_add_9ea2d_2 : decode cJx4a65c_add_9ea2d 2 = .ok (.getfield 63, 3) := by decide +kernel
theorem dJx4a65c_add_9ea2d_5 : decode cJx4a65c_add_9ea2d 5 = .ok (.iconst 1, 1) := by decide +kernel
theorem dJx4a65c_add_9ea2d_6 : decode cJx4a65c_add_9ea2d 6 = .ok (.iadd, 1) := by decide +kernel
theorem dJx4a65c_add_9ea2d_7 : decode cJx4a65c_add_9ea2d 7 = .ok (.putfield 63, 3) := by decide +kernel
theorem dJx4a65c_add_9ea2d_10 : decode cJx4a65c_add_9ea2d 10 = .ok (.aload_n 0, 1) := by decide +kernel
theorem dJx4a65c_add_9ea2d_11 : decode cJx4a65c_add_9ea2d 11 = .ok (.aload_n 1, 1) := by decide +kernel
theorem dJx4a65c_add_9ea2d_12 : decode cJx4a65c_add_9ea2d 12 = .ok (.aload_n 0, 1) := by decide +kernel
theorem dJx4a65c_add_9ea2d_13 : decode cJx4a65c_add_9ea2d 13 = .ok (.getfield 9, 3) := by decide +kernel
theorem dJx4a65c_add_9ea2d_16 : decode cJx4a65c_add_9ea2d 16 = .ok (.aload_n 0, 1) := by decide +kernel
theorem dJx4a65c_add_9ea2d_17 : decode cJx4a65c_add_9ea2d 17 = .ok (.getfield 48, 3) := by decide +kernel
theorem dJx4a65c_add_9ea2d_20 : decode cJx4a65c_add_9ea2d 20 = .ok (.invokevirtual 131, 3) := by decide +kernel
theorem dJx4a65c_add_9ea2d_23 : decode cJx4a65c_add_9ea2d 23 = .ok (.iconst 1, 1) := by decide +kernel
theorem dJx4a65c_add_9ea2d_24 : decode cJx4a65c_add_9ea2d 24 = .ok (.ireturn, 1) := by decide +kernel
abbrev M_Jx4a65c_add_9ea2d : MI := (RJx4a65c, cJx4a65c_add_9ea2d, 2, (some .boolean), ({ frames := 6, cells := 1, slots := 40, locals := 140 } : Room), 1, 40, false)
def f_Jx4a65c_add_9ea2d (h0 : AH) (p0 : Nat) (p1 : Nat) : Option (Int32 × AH) := if kd h0 p0 = 0 + 1 then (xgi h0 p0 0 0).bind fun v1 => (xpi h0 p0 0 0 (v1 + 1)).bind fun h2 => (xgr h2 p0 0 1).bind fun v3 => (xgi h2 p0 0 2).bind fun v4 => (gl h2 [p0, p1]).bind fun _ => (f_Jx4a65c_add_72be8 h2 p0 p1 v3 v4).bind fun q5 => some (1, q5) else none
theorem g_Jx4a65c_add_9ea2d {h0 : AH} {p0 : Nat} {p1 : Nat} {x : (Int32 × AH)} (e : f_Jx4a65c_add_9ea2d h0 p0 p1 = some x) : kd h0 p0 = 0 + 1 := by
  unfold f_Jx4a65c_add_9ea2d at e
  by_cases hk : kd h0 p0 = 0 + 1
  · exact hk
  · rw [if_neg hk] at e
    cases e
theorem km_Jx4a65c_add_9ea2d : KM yJx4a65c_add_9ea2d M_Jx4a65c_add_9ea2d 1 := ⟨in_tb 246 (by decide +kernel) rfl, in_tb 4 (by decide +kernel) rfl, by decide +kernel, rfl, rfl⟩
section
variable {l : Launch} {g : GG}
end
set_option maxRecDepth 100000 in
set_option maxHeartbeats 4000000 in
theorem c_Jx4a65c_add_9ea2d (l : Launch) (g : GG) (h0 : AH) (p0 : Nat) (p1 : Nat) : CN l g yJx4a65c_add_9ea2d M_Jx4a65c_add_9ea2d true [.ref p0, .ref p1] h0 rSi (f_Jx4a65c_add_9ea2d h0 p0 p1) := by
  refine CN.of (by decide) rfl (fun hh => by first | rfl | cases hh) (Nat.le_of_ble_eq_true rfl) ?_
  unfold f_Jx4a65c_add_9ea2d
  refine a_gd (fun hkd => ?_)
  refine a_aload_n dJx4a65c_add_9ea2d_0 rfl 0 rfl ?_
  refine a_dup dJx4a65c_add_9ea2d_1 rfl ?_
  refine a_getiS kc0 0 dJx4a65c_add_9ea2d_2 (by decide) rfl w_fieldLink_java_util_ArrayList_63 w_sameField_java_util_ArrayList_java_util_AbstractList_modCount_I (fun v1 => ?_)
  refine a_iconst (v := 1) dJx4a65c_add_9ea2d_5 (by decide) ?_
  refine a_iadd dJx4a65c_add_9ea2d_6 ?_
  refine a_putiS kc0 0 dJx4a65c_add_9ea2d_7 (by decide) rfl w_fieldLink_java_util_ArrayList_63 w_sameField_java_util_ArrayList_java_util_AbstractList_modCount_I rfl rfl (fun h2 => ?_)
  refine a_aload_n dJx4a65c_add_9ea2d_10 rfl 0 rfl ?_
  refine a_aload_n dJx4a65c_add_9ea2d_11 rfl 1 rfl ?_
  refine a_aload_n dJx4a65c_add_9ea2d_12 rfl 0 rfl ?_
  refine a_getr kc0 1 dJx4a65c_add_9ea2d_13 (by decide) rfl w_fieldLink_java_util_ArrayList_9 (fun v3 => ?_)
  refine a_aload_n dJx4a65c_add_9ea2d_16 rfl 0 rfl ?_
  refine a_geti kc0 2 dJx4a65c_add_9ea2d_17 (by decide) rfl w_fieldLink_java_util_ArrayList_48 (fun v4 => ?_)
  refine a_xV_Sv (r := p0) (ci := 0) (as := [.ref p1, .ref v3, .int v4]) (st := []) dJx4a65c_add_9ea2d_20 [p0, p1] rfl (c_Jx4a65c_add_72be8 l g h2 p0 p1 v3 v4) rfl km_Jx4a65c_add_72be8 rfl (by decide) rfl (fun _ ee => g_Jx4a65c_add_72be8 ee) w_methodLink_java_util_ArrayList_131 w_instanceMethod_java_util_ArrayList_add__Ljava_lang_Object__Ljava_lang_Object_I_V w_selects_java_util_ArrayList_java_util_ArrayList_add__Ljava_lang_Object__Ljava_lang_Object_I_V_java_util_ArrayList_add__Ljava_lang_Object__Ljava_lang_Object_I_V ⟨⟨by decide, by decide⟩, ⟨by decide, by decide⟩⟩ (Nat.le_of_ble_eq_true rfl) (fun q5 => ?_)
  refine a_widen 1 40 (by decide) (by decide) ?_
  refine a_iconst (v := 1) dJx4a65c_add_9ea2d_23 (by decide) ?_
  exact a_zret dJx4a65c_add_9ea2d_24 rfl (Or.inr rfl) rfl (by decide) (by decide)
theorem dX11_gauge_0 : decode cX11_gauge 0 = .ok (.iload_n 1, 1) := by decide +kernel
theorem dX11_gauge_1 : decode cX11_gauge 1 = .ok (.iload_n 2, 1) := by decide +kernel
theorem dX11_gauge_2 : decode cX11_gauge 2 = .ok (.invokestatic 96, 3) := by decide +kernel
theorem dX11_gauge_5 : decode cX11_gauge 5 = .ok (.ifCond .ne 6, 3) := by decide +kernel
theorem dX11_gauge_8 : decode cX11_gauge 8 = .ok (.bipush (-2), 2) := by decide +kernel
theorem dX11_gauge_10 : decode cX11_gauge 10 = .ok (.ireturn, 1) := by decide +kernel
theorem dX11_gauge_11 : decode cX11_gauge 11 = .ok (.iload_n 3, 1) := by decide +kernel
theorem dX11_gauge_12 : decode cX11_gauge 12 = .ok (.invokestatic 100, 3) := by decide +kernel
theorem dX11_gauge_15 : decode cX11_gauge 15 = .ok (.ifCond .ne 5, 3) := by decide +kernel
theorem dX11_gauge_18 : decode cX11_gauge 18 = .ok (.iconst (-1), 1) := by decide +kernel
theorem dX11_gauge_19 : decode cX11_gauge 19 = .ok (.ireturn, 1) := by decide +kernel
theorem dX11_gauge_20 : decode cX11_gauge 20 = .ok (.aload_n 0, 1) := by decide +kernel
theorem dX11_gauge_21 : decode cX11_gauge 21 = .ok (.getfield 12, 3) := by decide +kernel
theorem dX11_gauge_24 : decode cX11_gauge 24 = .ok (.invokevirtual 104, 3) := by decide +kernel
theorem dX11_gauge_27 : decode cX11_gauge 27 = .ok (.bipush 8, 2) := by decide +kernel
theorem dX11_gauge_29 : decode cX11_gauge 29 = .ok (.if_icmp .lt 6, 3) := by decide +kernel
theorem dX11_gauge_32 : decode cX11_gauge 32 = .ok (.bipush (-4), 2) := by decide +kernel
theorem dX11_gauge_34 : decode cX11_gauge 34 = .ok (.ireturn, 1) := by decide +kernel
theorem dX11_gauge_35 : decode cX11_gauge 35 = .ok (.aload_n 0, 1) := by decide +kernel
theorem dX11_gauge_36 : decode cX11_gauge 36 = .ok (.getfield 12, 3) := by decide +kernel
theorem dX11_gauge_39 : decode cX11_gauge 39 = .ok (.new 108, 3) := by decide +kernel
theorem dX11_gauge_42 : decode cX11_gauge 42 = .ok (.dup, 1) := by decide +kernel
theorem dX11_gauge_43 : decode cX11_gauge 43 = .ok (.iload_n 1, 1) := by decide +kernel
theorem dX11_gauge_44 : decode cX11_gauge 44 = .ok (.iload_n 2, 1) := by decide +kernel
theorem dX11_gauge_45 : decode cX11_gauge 45 = .ok (.iload_n 3, 1) := by decide +kernel
theorem dX11_gauge_46 : decode cX11_gauge 46 = .ok (.invokespecial 110, 3) := by decide +kernel
theorem dX11_gauge_49 : decode cX11_gauge 49 = .ok (.invokevirtual 113, 3) := by decide +kernel
theorem dX11_gauge_52 : decode cX11_gauge 52 = .ok (.pop, 1) := by decide +kernel
theorem dX11_gauge_53 : decode cX11_gauge 53 = .ok (.aload_n 0, 1) := by decide +kernel
theorem dX11_gauge_54 : decode cX11_gauge 54 = .ok (.getfield 12, 3) := by decide +kernel
theorem dX11_gauge_57 : decode cX11_gauge 57 = .ok (.invokevirtual 104, 3) := by decide +kernel
theorem dX11_gauge_60 : decode cX11_gauge 60 = .ok (.iconst 1, 1) := by decide +kernel
theorem dX11_gauge_61 : decode cX11_gauge 61 = .ok (.isub, 1) := by decide +kernel
theorem dX11_gauge_62 : decode cX11_gauge 62 = .ok (.ireturn, 1) := by decide +kernel
abbrev M_X11_gauge : MI := (RX11, cX11_gauge, 4, (some .int), ({ frames := 7, cells := 2, slots := 44, locals := 161 } : Room), 2, 44, false)
def f_X11_gauge (h0 : AH) (p0 : Nat) (p1 : Int32) (p2 : Int32) (p3 : Int32) : Option (Int32 × AH) := if kd h0 p0 = 12 + 1 then (f_X11_isPlace h0 p1 p2).bind fun v1 => (if v1 = 0 then some ((-2), h0) else (f_X11_isSeason h0 p3).bind fun v3 => (if v3 = 0 then some ((-1), h0) else (xgr h0 p0 12 0).bind fun v5 => (f_Jx4a65c_size_8abf5 h0 v5).bind fun v6 => (if v6 < 8 then (xgr h0 p0 12 0).bind fun v8 => (gl h0 [p0, v8]).bind fun _ => (xnw h0 (200 + (fi h0 v8 2).toNatClampNeg) 4).bind fun h9 => (f_X3_init h9 (200 + (fi h0 v8 2).toNatClampNeg) p1 p2 p3).bind fun q10 => (gl q10 [p0]).bind fun _ => (f_Jx4a65c_add_9ea2d q10 v8 (200 + (fi h0 v8 2).toNatClampNeg)).bind fun q11 => (xgr q11.2 p0 12 0).bind fun v12 => (f_Jx4a65c_size_8abf5 q11.2 v12).bind fun v13 => some ((v13 - 1), q11.2) else some ((-4), h0)))) else none
theorem g_X11_gauge {h0 : AH} {p0 : Nat} {p1 : Int32} {p2 : Int32} {p3 : Int32} {x : (Int32 × AH)} (e : f_X11_gauge h0 p0 p1 p2 p3 = some x) : kd h0 p0 = 12 + 1 := by
  unfold f_X11_gauge at e
  by_cases hk : kd h0 p0 = 12 + 1
  · exact hk
  · rw [if_neg hk] at e
    cases e
theorem km_X11_gauge : KM yX11_gauge M_X11_gauge 3 := ⟨in_tb 207 (by decide +kernel) rfl, in_tb 1 (by decide +kernel) rfl, by decide +kernel, rfl, rfl⟩
section
variable {l : Launch} {g : GG}
end
set_option maxRecDepth 100000 in
set_option maxHeartbeats 4000000 in
theorem c_X11_gauge (l : Launch) (g : GG) (h0 : AH) (p0 : Nat) (p1 : Int32) (p2 : Int32) (p3 : Int32) : CN l g yX11_gauge M_X11_gauge true [.ref p0, .int p1, .int p2, .int p3] h0 rSi (f_X11_gauge h0 p0 p1 p2 p3) := by
  refine CN.of (by decide) rfl (fun hh => by first | rfl | cases hh) (Nat.le_of_ble_eq_true rfl) ?_
  unfold f_X11_gauge
  refine a_gd (fun hkd => ?_)
  refine a_iload_n dX11_gauge_0 rfl 1 rfl ?_
  refine a_iload_n dX11_gauge_1 rfl 2 rfl ?_
  refine a_cS_Pi (as := [.int p1, .int p2]) (st := []) dX11_gauge_2 (c_X11_isPlace l g h0 p1 p2) rfl km_X11_isPlace (hm_X11_isPlace) w_methodLink_RainCover_96 w_static_RainCover_isPlace__II_Z ⟨⟨by decide, by decide⟩, ⟨by decide, by decide⟩⟩ (Nat.le_of_ble_eq_true rfl) (fun v1 => ?_)
  refine a_if_ne 11 dX11_gauge_5 (by decide) (fun c2 => ?_) (fun c2 => ?_)
  · refine a_bipush (v := (-2)) dX11_gauge_8 (by decide) ?_
    exact a_iret dX11_gauge_10 rfl rfl (by decide) (by decide)
  · refine a_iload_n dX11_gauge_11 rfl 3 rfl ?_
    refine a_cS_Pi (as := [.int p3]) (st := []) dX11_gauge_12 (c_X11_isSeason l g h0 p3) rfl km_X11_isSeason (hm_X11_isSeason) w_methodLink_RainCover_100 w_static_RainCover_isSeason__I_Z ⟨⟨by decide, by decide⟩, ⟨by decide, by decide⟩⟩ (Nat.le_of_ble_eq_true rfl) (fun v3 => ?_)
    refine a_if_ne 20 dX11_gauge_15 (by decide) (fun c4 => ?_) (fun c4 => ?_)
    · refine a_iconst (v := (-1)) dX11_gauge_18 (by decide) ?_
      exact a_iret dX11_gauge_19 rfl rfl (by decide) (by decide)
    · refine a_aload_n dX11_gauge_20 rfl 0 rfl ?_
      refine a_getr kc12 0 dX11_gauge_21 (by decide) rfl w_fieldLink_RainCover_12 (fun v5 => ?_)
      refine a_cV_Pi (r := v5) (ci := 0) (as := []) (st := []) dX11_gauge_24 (c_Jx4a65c_size_8abf5 l g h0 v5) rfl km_Jx4a65c_size_8abf5 (hm_Jx4a65c_size_8abf5) rfl (by decide) rfl (fun _ ee => g_Jx4a65c_size_8abf5 ee) w_methodLink_RainCover_104 w_instanceMethod_java_util_ArrayList_size___I w_selects_java_util_ArrayList_java_util_ArrayList_size___I_java_util_ArrayList_size___I ⟨⟨by decide, by decide⟩, ⟨by decide, by decide⟩⟩ (Nat.le_of_ble_eq_true rfl) (fun v6 => ?_)
      refine a_bipush (v := 8) dX11_gauge_27 (by decide) ?_
      refine a_icmp_lt 35 dX11_gauge_29 (by decide) (fun c7 => ?_) (fun c7 => ?_)
      · refine a_aload_n dX11_gauge_35 rfl 0 rfl ?_
        refine a_getr kc12 0 dX11_gauge_36 (by decide) rfl w_fieldLink_RainCover_12 (fun v8 => ?_)
        refine a_new (r := (200 + (fi h0 v8 2).toNatClampNeg)) kc4 [p0, v8] rfl dX11_gauge_39 (by decide +kernel) w_classLink_RainCover_108 w_instantiable_RainCover_Gauge w_initialized_RainCover_Gauge (by decide) (by decide) (fun h9 => ?_)
        refine a_widen 1 4 (by decide) (by decide) ?_
        refine a_dup dX11_gauge_42 rfl ?_
        refine a_iload_n dX11_gauge_43 rfl 1 rfl ?_
        refine a_iload_n dX11_gauge_44 rfl 2 rfl ?_
        refine a_iload_n dX11_gauge_45 rfl 3 rfl ?_
        refine a_cI_Sv (r := (200 + (fi h0 v8 2).toNatClampNeg)) (as := [.int p1, .int p2, .int p3]) (st := [.ref (200 + (fi h0 v8 2).toNatClampNeg), .ref v8]) dX11_gauge_46 (c_X3_init l g h9 (200 + (fi h0 v8 2).toNatClampNeg) p1 p2 p3) rfl km_X3_init (hm_X3_init) rfl rfl w_methodLink_RainCover_110 w_instanceMethod_RainCover_Gauge__init___III_V ⟨⟨by decide, by decide⟩, ⟨by decide, by decide⟩⟩ (Nat.le_of_ble_eq_true rfl) (fun q10 => ?_)
        refine a_xV_Si (r := v8) (ci := 0) (as := [.ref (200 + (fi h0 v8 2).toNatClampNeg)]) (st := []) dX11_gauge_49 [p0] rfl (c_Jx4a65c_add_9ea2d l g q10 v8 (200 + (fi h0 v8 2).toNatClampNeg)) rfl km_Jx4a65c_add_9ea2d rfl (by decide) rfl (fun _ ee => g_Jx4a65c_add_9ea2d ee) w_methodLink_RainCover_113 w_instanceMethod_java_util_ArrayList_add__Ljava_lang_Object__Z w_selects_java_util_ArrayList_java_util_ArrayList_add__Ljava_lang_Object__Z_java_util_ArrayList_add__Ljava_lang_Object__Z ⟨⟨by decide, by decide⟩, ⟨by decide, by decide⟩⟩ (Nat.le_of_ble_eq_true rfl) (fun q11 => ?_)
        refine a_widen 2 44 (by decide) (by decide) ?_
        refine a_pop dX11_gauge_52 rfl ?_
        refine a_aload_n dX11_gauge_53 rfl 0 rfl ?_
        refine a_getr kc12 0 dX11_gauge_54 (by decide) rfl w_fieldLink_RainCover_12 (fun v12 => ?_)
        refine a_cV_Pi (r := v12) (ci := 0) (as := []) (st := []) dX11_gauge_57 (c_Jx4a65c_size_8abf5 l g q11.2 v12) rfl km_Jx4a65c_size_8abf5 (hm_Jx4a65c_size_8abf5) rfl (by decide) rfl (fun _ ee => g_Jx4a65c_size_8abf5 ee) w_methodLink_RainCover_104 w_instanceMethod_java_util_ArrayList_size___I w_selects_java_util_ArrayList_java_util_ArrayList_size___I_java_util_ArrayList_size___I ⟨⟨by decide, by decide⟩, ⟨by decide, by decide⟩⟩ (Nat.le_of_ble_eq_true rfl) (fun v13 => ?_)
        refine a_iconst (v := 1) dX11_gauge_60 (by decide) ?_
        refine a_isub dX11_gauge_61 ?_
        exact a_iret dX11_gauge_62 rfl rfl (by decide) (by decide)
      · refine a_bipush (v := (-4)) dX11_gauge_32 (by decide) ?_
        exact a_iret dX11_gauge_34 rfl rfl (by decide) (by decide)
theorem dX11_isGauge_0 : decode cX11_isGauge 0 = .ok (.iload_n 1, 1) := by decide +kernel
theorem dX11_isGauge_1 : decode cX11_isGauge 1 = .ok (.iconst 0, 1) := by decide +kernel
theorem dX11_isGauge_2 : decode cX11_isGauge 2 = .ok (.aload_n 0, 1) := by decide +kernel
theorem dX11_isGauge_3 : decode cX11_isGauge 3 = .ok (.getfield 12, 3) := by decide +kernel
theorem dX11_isGauge_6 : decode cX11_isGauge 6 = .ok (.invokevirtual 104, 3) := by decide +kernel
theorem dX11_isGauge_9 : decode cX11_isGauge 9 = .ok (.iconst 1, 1) := by decide +kernel
theorem dX11_isGauge_10 : decode cX11_isGauge 10 = .ok (.isub, 1) := by decide +kernel
theorem dX11_isGauge_11 : decode cX11_isGauge 11 = .ok (.invokestatic 120, 3) := by decide +kernel
theorem dX11_isGauge_14 : decode cX11_isGauge 14 = .ok (.ireturn, 1) := by decide +kernel
abbrev M_X11_isGauge : MI := (RX11, cX11_isGauge, 2, (some .boolean), ({ frames := 1, cells := 0, slots := 0, locals := 22 } : Room), 0, 0, false)
def f_X11_isGauge (h : AH) (p0 : Nat) (p1 : Int32) : Option Int32 := if kd h p0 = 12 + 1 then (xgr h p0 12 0).bind fun v1 => (f_Jx4a65c_size_8abf5 h v1).bind fun v2 => (f_X11_within h p1 0 (v2 - 1)).bind fun v3 => (if v3 = 0 ∨ v3 = 1 then some v3 else none) else none
theorem g_X11_isGauge {h : AH} {p0 : Nat} {p1 : Int32} {x : Int32} (e : f_X11_isGauge h p0 p1 = some x) : kd h p0 = 12 + 1 := by
  unfold f_X11_isGauge at e
  by_cases hk : kd h p0 = 12 + 1
  · exact hk
  · rw [if_neg hk] at e
    cases e
theorem km_X11_isGauge : KM yX11_isGauge M_X11_isGauge 1 := ⟨in_tb 311 (by decide +kernel) rfl, in_tb 1 (by decide +kernel) rfl, by decide +kernel, rfl, rfl⟩
theorem hm_X11_isGauge : M_X11_isGauge.2.2.2.2.2.1 = 0 ∧ M_X11_isGauge.2.2.2.2.2.2.1 = 0 := ⟨rfl, rfl⟩
section
variable {l : Launch} {g : GG}
end
set_option maxRecDepth 100000 in
set_option maxHeartbeats 4000000 in
theorem c_X11_isGauge (l : Launch) (g : GG) (h : AH) (p0 : Nat) (p1 : Int32) : CN l g yX11_isGauge M_X11_isGauge false [.ref p0, .int p1] h ((rPi h)) (f_X11_isGauge h p0 p1) := by
  refine CN.of (by decide) rfl (fun hh => by first | rfl | cases hh) (Nat.le_of_ble_eq_true rfl) ?_
  unfold f_X11_isGauge
  refine a_gd (fun hkd => ?_)
  refine a_iload_n dX11_isGauge_0 rfl 1 rfl ?_
  refine a_iconst (v := 0) dX11_isGauge_1 (by decide) ?_
  refine a_aload_n dX11_isGauge_2 rfl 0 rfl ?_
  refine a_getr kc12 0 dX11_isGauge_3 (by decide) rfl w_fieldLink_RainCover_12 (fun v1 => ?_)
  refine a_cV_Pi (r := v1) (ci := 0) (as := []) (st := [.int 0, .int p1]) dX11_isGauge_6 (c_Jx4a65c_size_8abf5 l g h v1) rfl km_Jx4a65c_size_8abf5 (hm_Jx4a65c_size_8abf5) rfl (by decide) rfl (fun _ ee => g_Jx4a65c_size_8abf5 ee) w_methodLink_RainCover_104 w_instanceMethod_java_util_ArrayList_size___I w_selects_java_util_ArrayList_java_util_ArrayList_size___I_java_util_ArrayList_size___I ⟨⟨by decide, by decide⟩, ⟨by decide, by decide⟩⟩ (Nat.le_of_ble_eq_true rfl) (fun v2 => ?_)
  refine a_iconst (v := 1) dX11_isGauge_9 (by decide) ?_
  refine a_isub dX11_isGauge_10 ?_
  refine a_cS_Pi (as := [.int p1, .int 0, .int (v2 - 1)]) (st := []) dX11_isGauge_11 (c_X11_within l g h p1 0 (v2 - 1)) rfl km_X11_within (hm_X11_within) w_methodLink_RainCover_120 w_static_RainCover_within__III_Z ⟨⟨by decide, by decide⟩, ⟨by decide, by decide⟩⟩ (Nat.le_of_ble_eq_true rfl) (fun v3 => ?_)
  exact a_gd (fun c4 => a_zret dX11_isGauge_14 rfl c4 rfl (by decide) (by decide))
theorem dJ3_checkIndex_8e157_0 : decode cJ3_checkIndex_8e157 0 = .ok (.iload_n 0, 1) := by decide +kernel
theorem dJ3_checkIndex_8e157_1 : decode cJ3_checkIndex_8e157 1 = .ok (.ifCond .lt 8, 3) := by decide +kernel
theorem dJ3_checkIndex_8e157_4 : decode cJ3_checkIndex_8e157 4 = .ok (.iload_n 0, 1) := by decide +kernel
theorem dJ3_checkIndex_8e157_5 : decode cJ3_checkIndex_8e157 5 = .ok (.iload_n 1, 1) := by decide +kernel
theorem dJ3_checkIndex_8e157_6 : decode cJ3_checkIndex_8e157 6 = .ok (.if_icmp .lt 10, 3) := by decide +kernel
theorem dJ3_checkIndex_8e157_9 : decode cJ3_checkIndex_8e157 9 = .ok (.aload_n 2, 1) := by decide +kernel
theorem dJ3_checkIndex_8e157_16 : decode cJ3_checkIndex_8e157 16 = .ok (.iload_n 0, 1) := by decide +kernel
theorem dJ3_checkIndex_8e157_17 : decode cJ3_checkIndex_8e157 17 = .ok (.ireturn, 1) := by decide +kernel
abbrev M_J3_checkIndex_8e157 : MI := (RJ3, cJ3_checkIndex_8e157, 3, (some .int), ({ frames := 0, cells := 0, slots := 0, locals := 0 } : Room), 0, 0, false)
def f_J3_checkIndex_8e157 (h : AH) (p0 : Int32) (p1 : Int32) : Option Int32 := (if p0 < 0 then none else (if p0 < p1 then some p0 else none))
theorem km_J3_checkIndex_8e157 : KM yJ3_checkIndex_8e157 M_J3_checkIndex_8e157 3 := ⟨in_tb 321 (by decide +kernel) rfl, in_tb 16 (by decide +kernel) rfl, by decide +kernel, rfl, rfl⟩
theorem hm_J3_checkIndex_8e157 : M_J3_checkIndex_8e157.2.2.2.2.2.1 = 0 ∧ M_J3_checkIndex_8e157.2.2.2.2.2.2.1 = 0 := ⟨rfl, rfl⟩
section
variable {l : Launch} {g : GG}
end
set_option maxRecDepth 100000 in
set_option maxHeartbeats 4000000 in
theorem c_J3_checkIndex_8e157 (l : Launch) (g : GG) (h : AH) (p0 : Int32) (p1 : Int32) (p2 : (Option Nat)) : CN l g yJ3_checkIndex_8e157 M_J3_checkIndex_8e157 false [.int p0, .int p1, va_rf p2] h ((rPi h)) (f_J3_checkIndex_8e157 h p0 p1) := by
  refine CN.of (by decide) rfl (fun hh => by first | rfl | cases hh) (by cases p2 <;> exact Nat.le_of_ble_eq_true rfl) ?_
  unfold f_J3_checkIndex_8e157
  refine a_iload_n dJ3_checkIndex_8e157_0 rfl 0 rfl ?_
  refine a_if_lt 9 dJ3_checkIndex_8e157_1 (by decide) (fun c1 => ?_) (fun c1 => ?_)
  · exact a_none
  · refine a_iload_n dJ3_checkIndex_8e157_4 rfl 0 rfl ?_
    refine a_iload_n dJ3_checkIndex_8e157_5 rfl 1 rfl ?_
    refine a_icmp_lt 16 dJ3_checkIndex_8e157_6 (by decide) (fun c2 => ?_) (fun c2 => ?_)
    · refine a_iload_n dJ3_checkIndex_8e157_16 rfl 0 rfl ?_
      exact a_iret dJ3_checkIndex_8e157_17 rfl rfl (by decide) (by decide)
    · exact a_none
theorem dJ15_checkIndex_7cf53_0 : decode cJ15_checkIndex_7cf53 0 = .ok (.iload_n 0, 1) := by decide +kernel
theorem dJ15_checkIndex_7cf53_1 : decode cJ15_checkIndex_7cf53 1 = .ok (.iload_n 1, 1) := by decide +kernel
theorem dJ15_checkIndex_7cf53_2 : decode cJ15_checkIndex_7cf53 2 = .ok (.aconst_null, 1) := by decide +kernel
theorem dJ15_checkIndex_7cf53_3 : decode cJ15_checkIndex_7cf53 3 = .ok (.invokestatic 105, 3) := by decide +kernel
theorem dJ15_checkIndex_7cf53_6 : decode cJ15_checkIndex_7cf53 6 = .ok (.ireturn, 1) := by decide +kernel
abbrev M_J15_checkIndex_7cf53 : MI := (RJ15, cJ15_checkIndex_7cf53, 2, (some .int), ({ frames := 1, cells := 0, slots := 0, locals := 22 } : Room), 0, 0, false)
def f_J15_checkIndex_7cf53 (h : AH) (p0 : Int32) (p1 : Int32) : Option Int32 := (f_J3_checkIndex_8e157 h p0 p1).bind fun v1 => some v1
theorem km_J15_checkIndex_7cf53 : KM yJ15_checkIndex_7cf53 M_J15_checkIndex_7cf53 2 := ⟨in_tb 318 (by decide +kernel) rfl, in_tb 15 (by decide +kernel) rfl, by decide +kernel, rfl, rfl⟩
theorem hm_J15_checkIndex_7cf53 : M_J15_checkIndex_7cf53.2.2.2.2.2.1 = 0 ∧ M_J15_checkIndex_7cf53.2.2.2.2.2.2.1 = 0 := ⟨rfl, rfl⟩
section
variable {l : Launch} {g : GG}
end
set_option maxRecDepth 100000 in
set_option maxHeartbeats 4000000 in
theorem c_J15_checkIndex_7cf53 (l : Launch) (g : GG) (h : AH) (p0 : Int32) (p1 : Int32) : CN l g yJ15_checkIndex_7cf53 M_J15_checkIndex_7cf53 false [.int p0, .int p1] h ((rPi h)) (f_J15_checkIndex_7cf53 h p0 p1) := by
  refine CN.of (by decide) rfl (fun hh => by first | rfl | cases hh) (Nat.le_of_ble_eq_true rfl) ?_
  unfold f_J15_checkIndex_7cf53
  refine a_iload_n dJ15_checkIndex_7cf53_0 rfl 0 rfl ?_
  refine a_iload_n dJ15_checkIndex_7cf53_1 rfl 1 rfl ?_
  refine a_null dJ15_checkIndex_7cf53_2 ?_
  refine a_cS_Pi (as := [.int p0, .int p1, .null]) (st := []) dJ15_checkIndex_7cf53_3 (c_J3_checkIndex_8e157 l g h p0 p1 none) rfl km_J3_checkIndex_8e157 (hm_J3_checkIndex_8e157) w_methodLink_java_util_Objects_105 w_static_jdk_internal_util_Preconditions_checkIndex__IILjava_util_function_BiFunction__I ⟨⟨by decide, by decide⟩, ⟨by decide, by decide⟩⟩ (Nat.le_of_ble_eq_true rfl) (fun v1 => ?_)
  exact a_iret dJ15_checkIndex_7cf53_6 rfl rfl (by decide) (by decide)
theorem dJx4a65c_elementData_915e3_0 : decode cJx4a65c_elementData_915e3 0 = .ok (.aload_n 0, 1) := by decide +kernel
theorem dJx4a65c_elementData_915e3_1 : decode cJx4a65c_elementData_915e3 1 = .ok (.getfield 9, 3) := by decide +kernel
theorem dJx4a65c_elementData_915e3_4 : decode cJx4a65c_elementData_915e3 4 = .ok (.iload_n 1, 1) := by decide +kernel
theorem dJx4a65c_elementData_915e3_5 : decode cJx4a65c_elementData_915e3 5 = .ok (.aaload, 1) := by decide +kernel
theorem dJx4a65c_elementData_915e3_6 : decode cJx4a65c_elementData_915e3 6 = .ok (.areturn, 1) := by decide +kernel
abbrev M_Jx4a65c_elementData_915e3 : MI := (RJx4a65c, cJx4a65c_elementData_915e3, 2, (some (.object "java/lang/Object")), ({ frames := 0, cells := 0, slots := 0, locals := 0 } : Room), 0, 0, false)
def f_Jx4a65c_elementData_915e3 (h : AH) (p0 : Nat) (p1 : Int32) : Option Nat := if kd h p0 = 0 + 1 then (xgr h p0 0 1).bind fun v1 => (xaa h v1 p1).bind fun v2 => some v2 else none
theorem g_Jx4a65c_elementData_915e3 {h : AH} {p0 : Nat} {p1 : Int32} {x : Nat} (e : f_Jx4a65c_elementData_915e3 h p0 p1 = some x) : kd h p0 = 0 + 1 := by
  unfold f_Jx4a65c_elementData_915e3 at e
  by_cases hk : kd h p0 = 0 + 1
  · exact hk
  · rw [if_neg hk] at e
    cases e
theorem km_Jx4a65c_elementData_915e3 : KM yJx4a65c_elementData_915e3 M_Jx4a65c_elementData_915e3 1 := ⟨in_tb 325 (by decide +kernel) rfl, in_tb 4 (by decide +kernel) rfl, by decide +kernel, rfl, rfl⟩
theorem hm_Jx4a65c_elementData_915e3 : M_Jx4a65c_elementData_915e3.2.2.2.2.2.1 = 0 ∧ M_Jx4a65c_elementData_915e3.2.2.2.2.2.2.1 = 0 := ⟨rfl, rfl⟩
section
variable {l : Launch} {g : GG}
end
set_option maxRecDepth 100000 in
set_option maxHeartbeats 4000000 in
theorem c_Jx4a65c_elementData_915e3 (l : Launch) (g : GG) (h : AH) (p0 : Nat) (p1 : Int32) : CN l g yJx4a65c_elementData_915e3 M_Jx4a65c_elementData_915e3 false [.ref p0, .int p1] h ((rPr h)) (f_Jx4a65c_elementData_915e3 h p0 p1) := by
  refine CN.of (by decide) rfl (fun hh => by first | rfl | cases hh) (Nat.le_of_ble_eq_true rfl) ?_
  unfold f_Jx4a65c_elementData_915e3
  refine a_gd (fun hkd => ?_)
  refine a_aload_n dJx4a65c_elementData_915e3_0 rfl 0 rfl ?_
  refine a_getr kc0 1 dJx4a65c_elementData_915e3_1 (by decide) rfl w_fieldLink_java_util_ArrayList_9 (fun v1 => ?_)
  refine a_iload_n dJx4a65c_elementData_915e3_4 rfl 1 rfl ?_
  refine a_aald dJx4a65c_elementData_915e3_5 (fun v2 => ?_)
  exact a_aret dJx4a65c_elementData_915e3_6 rfl (Or.inl ⟨_, rfl⟩) rfl (by decide) (by decide)
theorem dJx4a65c_get_915e3_0 : decode cJx4a65c_get_915e3 0 = .ok (.iload_n 1, 1) := by decide +kernel
theorem dJx4a65c_get_915e3_1 : decode cJx4a65c_get_915e3 1 = .ok (.aload_n 0, 1) := by decide +kernel
theorem dJx4a65c_get_915e3_2 : decode cJx4a65c_get_915e3 2 = .ok (.getfield 48, 3) := by decide +kernel
theorem dJx4a65c_get_915e3_5 : decode cJx4a65c_get_915e3 5 = .ok (.invokestatic 118, 3) := by decide +kernel
theorem dJx4a65c_get_915e3_8 : decode cJx4a65c_get_915e3 8 = .ok (.pop, 1) := by decide +kernel
theorem dJx4a65c_get_915e3_9 : decode cJx4a65c_get_915e3 9 = .ok (.aload_n 0, 1) := by decide +kernel
theorem dJx4a65c_get_915e3_10 : decode cJx4a65c_get_915e3 10 = .ok (.iload_n 1, 1) := by decide +kernel
theorem dJx4a65c_get_915e3_11 : decode cJx4a65c_get_915e3 11 = .ok (.invokevirtual 123, 3) := by decide +kernel
theorem dJx4a65c_get_915e3_14 : decode cJx4a65c_get_915e3 14 = .ok (.areturn, 1) := by decide +kernel
abbrev M_Jx4a65c_get_915e3 : MI := (RJx4a65c, cJx4a65c_get_915e3, 2, (some (.object "java/lang/Object")), ({ frames := 2, cells := 0, slots := 0, locals := 43 } : Room), 0, 0, false)
def f_Jx4a65c_get_915e3 (h : AH) (p0 : Nat) (p1 : Int32) : Option Nat := if kd h p0 = 0 + 1 then (xgi h p0 0 2).bind fun v1 => (f_J15_checkIndex_7cf53 h p1 v1).bind fun v2 => (f_Jx4a65c_elementData_915e3 h p0 p1).bind fun v3 => some v3 else none
theorem g_Jx4a65c_get_915e3 {h : AH} {p0 : Nat} {p1 : Int32} {x : Nat} (e : f_Jx4a65c_get_915e3 h p0 p1 = some x) : kd h p0 = 0 + 1 := by
  unfold f_Jx4a65c_get_915e3 at e
  by_cases hk : kd h p0 = 0 + 1
  · exact hk
  · rw [if_neg hk] at e
    cases e
theorem km_Jx4a65c_get_915e3 : KM yJx4a65c_get_915e3 M_Jx4a65c_get_915e3 1 := ⟨in_tb 315 (by decide +kernel) rfl, in_tb 4 (by decide +kernel) rfl, by decide +kernel, rfl, rfl⟩
theorem hm_Jx4a65c_get_915e3 : M_Jx4a65c_get_915e3.2.2.2.2.2.1 = 0 ∧ M_Jx4a65c_get_915e3.2.2.2.2.2.2.1 = 0 := ⟨rfl, rfl⟩
section
variable {l : Launch} {g : GG}
end
set_option maxRecDepth 100000 in
set_option maxHeartbeats 4000000 in
theorem c_Jx4a65c_get_915e3 (l : Launch) (g : GG) (h : AH) (p0 : Nat) (p1 : Int32) : CN l g yJx4a65c_get_915e3 M_Jx4a65c_get_915e3 false [.ref p0, .int p1] h ((rPr h)) (f_Jx4a65c_get_915e3 h p0 p1) := by
  refine CN.of (by decide) rfl (fun hh => by first | rfl | cases hh) (Nat.le_of_ble_eq_true rfl) ?_
  unfold f_Jx4a65c_get_915e3
  refine a_gd (fun hkd => ?_)
  refine a_iload_n dJx4a65c_get_915e3_0 rfl 1 rfl ?_
  refine a_aload_n dJx4a65c_get_915e3_1 rfl 0 rfl ?_
  refine a_geti kc0 2 dJx4a65c_get_915e3_2 (by decide) rfl w_fieldLink_java_util_ArrayList_48 (fun v1 => ?_)
  refine a_cS_Pi (as := [.int p1, .int v1]) (st := []) dJx4a65c_get_915e3_5 (c_J15_checkIndex_7cf53 l g h p1 v1) rfl km_J15_checkIndex_7cf53 (hm_J15_checkIndex_7cf53) w_methodLink_java_util_ArrayList_118 w_static_java_util_Objects_checkIndex__II_I ⟨⟨by decide, by decide⟩, ⟨by decide, by decide⟩⟩ (Nat.le_of_ble_eq_true rfl) (fun v2 => ?_)
  refine a_pop dJx4a65c_get_915e3_8 rfl ?_
  refine a_aload_n dJx4a65c_get_915e3_9 rfl 0 rfl ?_
  refine a_iload_n dJx4a65c_get_915e3_10 rfl 1 rfl ?_
  refine a_cV_Pr (r := p0) (ci := 0) (as := [.int p1]) (st := []) dJx4a65c_get_915e3_11 (c_Jx4a65c_elementData_915e3 l g h p0 p1) rfl km_Jx4a65c_elementData_915e3 (hm_Jx4a65c_elementData_915e3) rfl (by decide) rfl (fun _ ee => g_Jx4a65c_elementData_915e3 ee) w_methodLink_java_util_ArrayList_123 w_instanceMethod_java_util_ArrayList_elementData__I_Ljava_lang_Object_ w_selects_java_util_ArrayList_java_util_ArrayList_elementData__I_Ljava_lang_Object__java_util_ArrayList_elementData__I_Ljava_lang_Object_ ⟨⟨by decide, by decide⟩, ⟨by decide, by decide⟩⟩ (Nat.le_of_ble_eq_true rfl) (fun v3 => ?_)
  exact a_aret dJx4a65c_get_915e3_14 rfl (Or.inl ⟨_, rfl⟩) rfl (by decide) (by decide)
theorem dX11_down_0 : decode cX11_down 0 = .ok (.aload_n 0, 1) := by decide +kernel
theorem dX11_down_1 : decode cX11_down 1 = .ok (.iload_n 1, 1) := by decide +kernel
theorem dX11_down_2 : decode cX11_down 2 = .ok (.invokevirtual 117, 3) := by decide +kernel
theorem dX11_down_5 : decode cX11_down 5 = .ok (.ifCond .eq 13, 3) := by decide +kernel
theorem dX11_down_8 : decode cX11_down 8 = .ok (.iload_n 2, 1) := by decide +kernel
theorem dX11_down_9 : decode cX11_down 9 = .ok (.iconst 0, 1) := by decide +kernel
theorem dX11_down_10 : decode cX11_down 10 = .ok (.bipush 16, 2) := by decide +kernel
theorem dX11_down_12 : decode cX11_down 12 = .ok (.invokestatic 120, 3) := by decide +kernel
theorem dX11_down_15 : decode cX11_down 15 = .ok (.ifCond .ne 5, 3) := by decide +kernel
theorem dX11_down_18 : decode cX11_down 18 = .ok (.iconst (-1), 1) := by decide +kernel
theorem dX11_down_19 : decode cX11_down 19 = .ok (.ireturn, 1) := by decide +kernel
theorem dX11_down_20 : decode cX11_down 20 = .ok (.aload_n 0, 1) := by decide +kernel
theorem dX11_down_21 : decode cX11_down 21 = .ok (.getfield 12, 3) := by decide +kernel
theorem dX11_down_24 : decode cX11_down 24 = .ok (.iload_n 1, 1) := by decide +kernel
theorem dX11_down_25 : decode cX11_down 25 = .ok (.invokevirtual 124, 3) := by decide +kernel
theorem dX11_down_28 : decode cX11_down 28 = .ok (.checkcast 108, 3) := by decide +kernel
theorem dX11_down_31 : decode cX11_down 31 = .ok (.iload_n 2, 1) := by decide +kernel
theorem dX11_down_32 : decode cX11_down 32 = .ok (.putfield 128, 3) := by decide +kernel
theorem dX11_down_35 : decode cX11_down 35 = .ok (.iconst 1, 1) := by decide +kernel
theorem dX11_down_36 : decode cX11_down 36 = .ok (.ireturn, 1) := by decide +kernel
abbrev M_X11_down : MI := (RX11, cX11_down, 3, (some .int), ({ frames := 3, cells := 0, slots := 0, locals := 64 } : Room), 0, 0, false)
def f_X11_down (h0 : AH) (p0 : Nat) (p1 : Int32) (p2 : Int32) : Option (Int32 × AH) := if kd h0 p0 = 12 + 1 then (f_X11_isGauge h0 p0 p1).bind fun v1 => (if v1 = 0 then some ((-1), h0) else (f_X11_within h0 p2 0 16).bind fun v3 => (if v3 = 0 then some ((-1), h0) else (xgr h0 p0 12 0).bind fun v5 => (f_Jx4a65c_get_915e3 h0 v5 p1).bind fun v6 => (xcc h0 v6 4).bind fun _ => (xpi h0 v6 4 3 p2).bind fun h7 => some (1, h7))) else none
theorem g_X11_down {h0 : AH} {p0 : Nat} {p1 : Int32} {p2 : Int32} {x : (Int32 × AH)} (e : f_X11_down h0 p0 p1 p2 = some x) : kd h0 p0 = 12 + 1 := by
  unfold f_X11_down at e
  by_cases hk : kd h0 p0 = 12 + 1
  · exact hk
  · rw [if_neg hk] at e
    cases e
theorem km_X11_down : KM yX11_down M_X11_down 2 := ⟨in_tb 307 (by decide +kernel) rfl, in_tb 1 (by decide +kernel) rfl, by decide +kernel, rfl, rfl⟩
theorem hm_X11_down : M_X11_down.2.2.2.2.2.1 = 0 ∧ M_X11_down.2.2.2.2.2.2.1 = 0 := ⟨rfl, rfl⟩
section
variable {l : Launch} {g : GG}
end
set_option maxRecDepth 100000 in
set_option maxHeartbeats 4000000 in
theorem c_X11_down (l : Launch) (g : GG) (h0 : AH) (p0 : Nat) (p1 : Int32) (p2 : Int32) : CN l g yX11_down M_X11_down false [.ref p0, .int p1, .int p2] h0 rSi (f_X11_down h0 p0 p1 p2) := by
  refine CN.of (by decide) rfl (fun hh => by first | rfl | cases hh) (Nat.le_of_ble_eq_true rfl) ?_
  unfold f_X11_down
  refine a_gd (fun hkd => ?_)
  refine a_aload_n dX11_down_0 rfl 0 rfl ?_
  refine a_iload_n dX11_down_1 rfl 1 rfl ?_
  refine a_cV_Pi (r := p0) (ci := 12) (as := [.int p1]) (st := []) dX11_down_2 (c_X11_isGauge l g h0 p0 p1) rfl km_X11_isGauge (hm_X11_isGauge) rfl (by decide) rfl (fun _ ee => g_X11_isGauge ee) w_methodLink_RainCover_117 w_instanceMethod_RainCover_isGauge__I_Z w_selects_RainCover_RainCover_isGauge__I_Z_RainCover_isGauge__I_Z ⟨⟨by decide, by decide⟩, ⟨by decide, by decide⟩⟩ (Nat.le_of_ble_eq_true rfl) (fun v1 => ?_)
  refine a_if_eq 18 dX11_down_5 (by decide) (fun c2 => ?_) (fun c2 => ?_)
  · refine a_iconst (v := (-1)) dX11_down_18 (by decide) ?_
    exact a_iret dX11_down_19 rfl rfl (by decide) (by decide)
  · refine a_iload_n dX11_down_8 rfl 2 rfl ?_
    refine a_iconst (v := 0) dX11_down_9 (by decide) ?_
    refine a_bipush (v := 16) dX11_down_10 (by decide) ?_
    refine a_cS_Pi (as := [.int p2, .int 0, .int 16]) (st := []) dX11_down_12 (c_X11_within l g h0 p2 0 16) rfl km_X11_within (hm_X11_within) w_methodLink_RainCover_120 w_static_RainCover_within__III_Z ⟨⟨by decide, by decide⟩, ⟨by decide, by decide⟩⟩ (Nat.le_of_ble_eq_true rfl) (fun v3 => ?_)
    refine a_if_ne 20 dX11_down_15 (by decide) (fun c4 => ?_) (fun c4 => ?_)
    · refine a_iconst (v := (-1)) dX11_down_18 (by decide) ?_
      exact a_iret dX11_down_19 rfl rfl (by decide) (by decide)
    · refine a_aload_n dX11_down_20 rfl 0 rfl ?_
      refine a_getr kc12 0 dX11_down_21 (by decide) rfl w_fieldLink_RainCover_12 (fun v5 => ?_)
      refine a_iload_n dX11_down_24 rfl 1 rfl ?_
      refine a_cV_Pr (r := v5) (ci := 0) (as := [.int p1]) (st := []) dX11_down_25 (c_Jx4a65c_get_915e3 l g h0 v5 p1) rfl km_Jx4a65c_get_915e3 (hm_Jx4a65c_get_915e3) rfl (by decide) rfl (fun _ ee => g_Jx4a65c_get_915e3 ee) w_methodLink_RainCover_124 w_instanceMethod_java_util_ArrayList_get__I_Ljava_lang_Object_ w_selects_java_util_ArrayList_java_util_ArrayList_get__I_Ljava_lang_Object__java_util_ArrayList_get__I_Ljava_lang_Object_ ⟨⟨by decide, by decide⟩, ⟨by decide, by decide⟩⟩ (Nat.le_of_ble_eq_true rfl) (fun v6 => ?_)
      refine a_cast kc4 dX11_down_28 w_classLink_RainCover_108 ?_
      refine a_iload_n dX11_down_31 rfl 2 rfl ?_
      refine a_puti kc4 3 dX11_down_32 (by decide) rfl w_fieldLink_RainCover_128 rfl rfl (fun h7 => ?_)
      refine a_iconst (v := 1) dX11_down_35 (by decide) ?_
      exact a_iret dX11_down_36 rfl rfl (by decide) (by decide)
theorem dX11_law_0 : decode cX11_law 0 = .ok (.iload_n 1, 1) := by decide +kernel
theorem dX11_law_1 : decode cX11_law 1 = .ok (.iconst 0, 1) := by decide +kernel
theorem dX11_law_2 : decode cX11_law 2 = .ok (.iconst 3, 1) := by decide +kernel
theorem dX11_law_3 : decode cX11_law 3 = .ok (.invokestatic 120, 3) := by decide +kernel
theorem dX11_law_6 : decode cX11_law 6 = .ok (.ifCond .ne 5, 3) := by decide +kernel
theorem dX11_law_9 : decode cX11_law 9 = .ok (.iconst (-1), 1) := by decide +kernel
theorem dX11_law_10 : decode cX11_law 10 = .ok (.ireturn, 1) := by decide +kernel
theorem dX11_law_11 : decode cX11_law 11 = .ok (.iload_n 2, 1) := by decide +kernel
theorem dX11_law_12 : decode cX11_law 12 = .ok (.iconst 0, 1) := by decide +kernel
theorem dX11_law_13 : decode cX11_law 13 = .ok (.getstatic 131, 3) := by decide +kernel
theorem dX11_law_16 : decode cX11_law 16 = .ok (.iload_n 1, 1) := by decide +kernel
theorem dX11_law_17 : decode cX11_law 17 = .ok (.iaload, 1) := by decide +kernel
theorem dX11_law_18 : decode cX11_law 18 = .ok (.invokestatic 120, 3) := by decide +kernel
theorem dX11_law_21 : decode cX11_law 21 = .ok (.ifCond .ne 6, 3) := by decide +kernel
theorem dX11_law_24 : decode cX11_law 24 = .ok (.bipush (-2), 2) := by decide +kernel
theorem dX11_law_26 : decode cX11_law 26 = .ok (.ireturn, 1) := by decide +kernel
theorem dX11_law_27 : decode cX11_law 27 = .ok (.aload_n 0, 1) := by decide +kernel
theorem dX11_law_28 : decode cX11_law 28 = .ok (.getfield 41, 3) := by decide +kernel
theorem dX11_law_31 : decode cX11_law 31 = .ok (.iload_n 1, 1) := by decide +kernel
theorem dX11_law_32 : decode cX11_law 32 = .ok (.iaload, 1) := by decide +kernel
theorem dX11_law_33 : decode cX11_law 33 = .ok (.istore_n 3, 1) := by decide +kernel
theorem dX11_law_34 : decode cX11_law 34 = .ok (.aload_n 0, 1) := by decide +kernel
theorem dX11_law_35 : decode cX11_law 35 = .ok (.getfield 41, 3) := by decide +kernel
theorem dX11_law_38 : decode cX11_law 38 = .ok (.iload_n 1, 1) := by decide +kernel
theorem dX11_law_39 : decode cX11_law 39 = .ok (.iload_n 2, 1) := by decide +kernel
theorem dX11_law_40 : decode cX11_law 40 = .ok (.iastore, 1) := by decide +kernel
theorem dX11_law_41 : decode cX11_law 41 = .ok (.iload_n 3, 1) := by decide +kernel
theorem dX11_law_42 : decode cX11_law 42 = .ok (.ireturn, 1) := by decide +kernel
abbrev M_X11_law : MI := (RX11, cX11_law, 4, (some .int), ({ frames := 1, cells := 0, slots := 0, locals := 22 } : Room), 0, 0, false)
def f_X11_law (h0 : AH) (p0 : Nat) (p1 : Int32) (p2 : Int32) : Option (Int32 × AH) := if kd h0 p0 = 12 + 1 then (f_X11_within h0 p1 0 3).bind fun v1 => (if v1 = 0 then some ((-1), h0) else (xia h0 9002 p1).bind fun v3 => (f_X11_within h0 p2 0 v3).bind fun v4 => (if v4 = 0 then some ((-2), h0) else (xgr h0 p0 12 6).bind fun v6 => (xia h0 v6 p1).bind fun v7 => (xgr h0 p0 12 6).bind fun v8 => (xis h0 v8 p1 p2).bind fun h9 => some (v7, h9))) else none
theorem g_X11_law {h0 : AH} {p0 : Nat} {p1 : Int32} {p2 : Int32} {x : (Int32 × AH)} (e : f_X11_law h0 p0 p1 p2 = some x) : kd h0 p0 = 12 + 1 := by
  unfold f_X11_law at e
  by_cases hk : kd h0 p0 = 12 + 1
  · exact hk
  · rw [if_neg hk] at e
    cases e
theorem km_X11_law : KM yX11_law M_X11_law 2 := ⟨in_tb 329 (by decide +kernel) rfl, in_tb 1 (by decide +kernel) rfl, by decide +kernel, rfl, rfl⟩
theorem hm_X11_law : M_X11_law.2.2.2.2.2.1 = 0 ∧ M_X11_law.2.2.2.2.2.2.1 = 0 := ⟨rfl, rfl⟩
section
variable {l : Launch} {g : GG}
end
set_option maxRecDepth 100000 in
set_option maxHeartbeats 4000000 in
theorem c_X11_law (l : Launch) (g : GG) (h0 : AH) (p0 : Nat) (p1 : Int32) (p2 : Int32) : CN l g yX11_law M_X11_law false [.ref p0, .int p1, .int p2] h0 rSi (f_X11_law h0 p0 p1 p2) := by
  refine CN.of (by decide) rfl (fun hh => by first | rfl | cases hh) (Nat.le_of_ble_eq_true rfl) ?_
  unfold f_X11_law
  refine a_gd (fun hkd => ?_)
  refine a_iload_n dX11_law_0 rfl 1 rfl ?_
  refine a_iconst (v := 0) dX11_law_1 (by decide) ?_
  refine a_iconst (v := 3) dX11_law_2 (by decide) ?_
  refine a_cS_Pi (as := [.int p1, .int 0, .int 3]) (st := []) dX11_law_3 (c_X11_within l g h0 p1 0 3) rfl km_X11_within (hm_X11_within) w_methodLink_RainCover_120 w_static_RainCover_within__III_Z ⟨⟨by decide, by decide⟩, ⟨by decide, by decide⟩⟩ (Nat.le_of_ble_eq_true rfl) (fun v1 => ?_)
  refine a_if_ne 11 dX11_law_6 (by decide) (fun c2 => ?_) (fun c2 => ?_)
  · refine a_iconst (v := (-1)) dX11_law_9 (by decide) ?_
    exact a_iret dX11_law_10 rfl rfl (by decide) (by decide)
  · refine a_iload_n dX11_law_11 rfl 2 rfl ?_
    refine a_iconst (v := 0) dX11_law_12 (by decide) ?_
    refine a_gs2 dX11_law_13 w_fieldLink_RainCover_131 ?_
    refine a_iload_n dX11_law_16 rfl 1 rfl ?_
    refine a_iald dX11_law_17 (fun v3 => ?_)
    refine a_cS_Pi (as := [.int p2, .int 0, .int v3]) (st := []) dX11_law_18 (c_X11_within l g h0 p2 0 v3) rfl km_X11_within (hm_X11_within) w_methodLink_RainCover_120 w_static_RainCover_within__III_Z ⟨⟨by decide, by decide⟩, ⟨by decide, by decide⟩⟩ (Nat.le_of_ble_eq_true rfl) (fun v4 => ?_)
    refine a_if_ne 27 dX11_law_21 (by decide) (fun c5 => ?_) (fun c5 => ?_)
    · refine a_bipush (v := (-2)) dX11_law_24 (by decide) ?_
      exact a_iret dX11_law_26 rfl rfl (by decide) (by decide)
    · refine a_aload_n dX11_law_27 rfl 0 rfl ?_
      refine a_getr kc12 6 dX11_law_28 (by decide) rfl w_fieldLink_RainCover_41 (fun v6 => ?_)
      refine a_iload_n dX11_law_31 rfl 1 rfl ?_
      refine a_iald dX11_law_32 (fun v7 => ?_)
      refine a_istore_n (lc2 := [(3, .int v7), (0, .ref p0), (1, .int p1), (2, .int p2)]) dX11_law_33 rfl (by decide) rfl ?_
      refine a_aload_n dX11_law_34 rfl 1 rfl ?_
      refine a_getr kc12 6 dX11_law_35 (by decide) rfl w_fieldLink_RainCover_41 (fun v8 => ?_)
      refine a_iload_n dX11_law_38 rfl 2 rfl ?_
      refine a_iload_n dX11_law_39 rfl 3 rfl ?_
      refine a_iast dX11_law_40 (fun h9 => ?_)
      refine a_iload_n dX11_law_41 rfl 0 rfl ?_
      exact a_iret dX11_law_42 rfl rfl (by decide) (by decide)
theorem dX11_isGaugeWeek_0 : decode cX11_isGaugeWeek 0 = .ok (.aload_n 0, 1) := by decide +kernel
theorem dX11_isGaugeWeek_1 : decode cX11_isGaugeWeek 1 = .ok (.iload_n 1, 1) := by decide +kernel
theorem dX11_isGaugeWeek_2 : decode cX11_isGaugeWeek 2 = .ok (.invokevirtual 117, 3) := by decide +kernel
theorem dX11_isGaugeWeek_5 : decode cX11_isGaugeWeek 5 = .ok (.ifCond .eq 24, 3) := by decide +kernel
theorem dX11_isGaugeWeek_8 : decode cX11_isGaugeWeek 8 = .ok (.iload_n 2, 1) := by decide +kernel
theorem dX11_isGaugeWeek_9 : decode cX11_isGaugeWeek 9 = .ok (.invokestatic 100, 3) := by decide +kernel
theorem dX11_isGaugeWeek_12 : decode cX11_isGaugeWeek 12 = .ok (.ifCond .eq 17, 3) := by decide +kernel
theorem dX11_isGaugeWeek_15 : decode cX11_isGaugeWeek 15 = .ok (.iload_n 3, 1) := by decide +kernel
theorem dX11_isGaugeWeek_16 : decode cX11_isGaugeWeek 16 = .ok (.iconst 0, 1) := by decide +kernel
theorem dX11_isGaugeWeek_17 : decode cX11_isGaugeWeek 17 = .ok (.bipush 11, 2) := by decide +kernel
theorem dX11_isGaugeWeek_19 : decode cX11_isGaugeWeek 19 = .ok (.invokestatic 120, 3) := by decide +kernel
theorem dX11_isGaugeWeek_22 : decode cX11_isGaugeWeek 22 = .ok (.ifCond .eq 7, 3) := by decide +kernel
theorem dX11_isGaugeWeek_25 : decode cX11_isGaugeWeek 25 = .ok (.iconst 1, 1) := by decide +kernel
theorem dX11_isGaugeWeek_26 : decode cX11_isGaugeWeek 26 = .ok (.goto 4, 3) := by decide +kernel
theorem dX11_isGaugeWeek_29 : decode cX11_isGaugeWeek 29 = .ok (.iconst 0, 1) := by decide +kernel
theorem dX11_isGaugeWeek_30 : decode cX11_isGaugeWeek 30 = .ok (.ireturn, 1) := by decide +kernel
abbrev M_X11_isGaugeWeek : MI := (RX11, cX11_isGaugeWeek, 4, (some .boolean), ({ frames := 2, cells := 0, slots := 0, locals := 43 } : Room), 0, 0, false)
def f_X11_isGaugeWeek (h : AH) (p0 : Nat) (p1 : Int32) (p2 : Int32) (p3 : Int32) : Option Int32 := if kd h p0 = 12 + 1 then (f_X11_isGauge h p0 p1).bind fun v1 => (if v1 = 0 then some 0 else (f_X11_isSeason h p2).bind fun v3 => (if v3 = 0 then some 0 else (f_X11_within h p3 0 11).bind fun v5 => (if v5 = 0 then some 0 else some 1))) else none
theorem g_X11_isGaugeWeek {h : AH} {p0 : Nat} {p1 : Int32} {p2 : Int32} {p3 : Int32} {x : Int32} (e : f_X11_isGaugeWeek h p0 p1 p2 p3 = some x) : kd h p0 = 12 + 1 := by
  unfold f_X11_isGaugeWeek at e
  by_cases hk : kd h p0 = 12 + 1
  · exact hk
  · rw [if_neg hk] at e
    cases e
theorem km_X11_isGaugeWeek : KM yX11_isGaugeWeek M_X11_isGaugeWeek 3 := ⟨in_tb 339 (by decide +kernel) rfl, in_tb 1 (by decide +kernel) rfl, by decide +kernel, rfl, rfl⟩
theorem hm_X11_isGaugeWeek : M_X11_isGaugeWeek.2.2.2.2.2.1 = 0 ∧ M_X11_isGaugeWeek.2.2.2.2.2.2.1 = 0 := ⟨rfl, rfl⟩
section
variable {l : Launch} {g : GG}
end
set_option maxRecDepth 100000 in
set_option maxHeartbeats 4000000 in
theorem c_X11_isGaugeWeek (l : Launch) (g : GG) (h : AH) (p0 : Nat) (p1 : Int32) (p2 : Int32) (p3 : Int32) : CN l g yX11_isGaugeWeek M_X11_isGaugeWeek false [.ref p0, .int p1, .int p2, .int p3] h ((rPi h)) (f_X11_isGaugeWeek h p0 p1 p2 p3) := by
  refine CN.of (by decide) rfl (fun hh => by first | rfl | cases hh) (Nat.le_of_ble_eq_true rfl) ?_
  unfold f_X11_isGaugeWeek
  refine a_gd (fun hkd => ?_)
  refine a_aload_n dX11_isGaugeWeek_0 rfl 0 rfl ?_
  refine a_iload_n dX11_isGaugeWeek_1 rfl 1 rfl ?_
  refine a_cV_Pi (r := p0) (ci := 12) (as := [.int p1]) (st := []) dX11_isGaugeWeek_2 (c_X11_isGauge l g h p0 p1) rfl km_X11_isGauge (hm_X11_isGauge) rfl (by decide) rfl (fun _ ee => g_X11_isGauge ee) w_methodLink_RainCover_117 w_instanceMethod_RainCover_isGauge__I_Z w_selects_RainCover_RainCover_isGauge__I_Z_RainCover_isGauge__I_Z ⟨⟨by decide, by decide⟩, ⟨by decide, by decide⟩⟩ (Nat.le_of_ble_eq_true rfl) (fun v1 => ?_)
  refine a_if_eq 29 dX11_isGaugeWeek_5 (by decide) (fun c2 => ?_) (fun c2 => ?_)
  · refine a_iconst (v := 0) dX11_isGaugeWeek_29 (by decide) ?_
    exact a_zret dX11_isGaugeWeek_30 rfl (Or.inl rfl) rfl (by decide) (by decide)
  · refine a_iload_n dX11_isGaugeWeek_8 rfl 2 rfl ?_
    refine a_cS_Pi (as := [.int p2]) (st := []) dX11_isGaugeWeek_9 (c_X11_isSeason l g h p2) rfl km_X11_isSeason (hm_X11_isSeason) w_methodLink_RainCover_100 w_static_RainCover_isSeason__I_Z ⟨⟨by decide, by decide⟩, ⟨by decide, by decide⟩⟩ (Nat.le_of_ble_eq_true rfl) (fun v3 => ?_)
    refine a_if_eq 29 dX11_isGaugeWeek_12 (by decide) (fun c4 => ?_) (fun c4 => ?_)
    · refine a_iconst (v := 0) dX11_isGaugeWeek_29 (by decide) ?_
      exact a_zret dX11_isGaugeWeek_30 rfl (Or.inl rfl) rfl (by decide) (by decide)
    · refine a_iload_n dX11_isGaugeWeek_15 rfl 3 rfl ?_
      refine a_iconst (v := 0) dX11_isGaugeWeek_16 (by decide) ?_
      refine a_bipush (v := 11) dX11_isGaugeWeek_17 (by decide) ?_
      refine a_cS_Pi (as := [.int p3, .int 0, .int 11]) (st := []) dX11_isGaugeWeek_19 (c_X11_within l g h p3 0 11) rfl km_X11_within (hm_X11_within) w_methodLink_RainCover_120 w_static_RainCover_within__III_Z ⟨⟨by decide, by decide⟩, ⟨by decide, by decide⟩⟩ (Nat.le_of_ble_eq_true rfl) (fun v5 => ?_)
      refine a_if_eq 29 dX11_isGaugeWeek_22 (by decide) (fun c6 => ?_) (fun c6 => ?_)
      · refine a_iconst (v := 0) dX11_isGaugeWeek_29 (by decide) ?_
        exact a_zret dX11_isGaugeWeek_30 rfl (Or.inl rfl) rfl (by decide) (by decide)
      · refine a_iconst (v := 1) dX11_isGaugeWeek_25 (by decide) ?_
        refine a_goto 30 dX11_isGaugeWeek_26 (by decide) ?_
        exact a_zret dX11_isGaugeWeek_30 rfl (Or.inr rfl) rfl (by decide) (by decide)
theorem dX9_haveRoomFor_0 : decode cX9_haveRoomFor 0 = .ok (.aload_n 0, 1) := by decide +kernel
theorem dX9_haveRoomFor_1 : decode cX9_haveRoomFor 1 = .ok (.getfield 21, 3) := by decide +kernel
theorem dX9_haveRoomFor_4 : decode cX9_haveRoomFor 4 = .ok (.iload_n 1, 1) := by decide +kernel
theorem dX9_haveRoomFor_5 : decode cX9_haveRoomFor 5 = .ok (.iadd, 1) := by decide +kernel
theorem dX9_haveRoomFor_6 : decode cX9_haveRoomFor 6 = .ok (.sipush 700, 3) := by decide +kernel
theorem dX9_haveRoomFor_9 : decode cX9_haveRoomFor 9 = .ok (.if_icmp .gt 7, 3) := by decide +kernel
theorem dX9_haveRoomFor_12 : decode cX9_haveRoomFor 12 = .ok (.iconst 1, 1) := by decide +kernel
theorem dX9_haveRoomFor_13 : decode cX9_haveRoomFor 13 = .ok (.goto 4, 3) := by decide +kernel
theorem dX9_haveRoomFor_16 : decode cX9_haveRoomFor 16 = .ok (.iconst 0, 1) := by decide +kernel
theorem dX9_haveRoomFor_17 : decode cX9_haveRoomFor 17 = .ok (.ireturn, 1) := by decide +kernel
abbrev M_X9_haveRoomFor : MI := (RX9, cX9_haveRoomFor, 2, (some .boolean), ({ frames := 0, cells := 0, slots := 0, locals := 0 } : Room), 0, 0, false)
def f_X9_haveRoomFor (h : AH) (p0 : Nat) (p1 : Int32) : Option Int32 := if kd h p0 = 10 + 1 then (xgi h p0 10 3).bind fun v1 => (if 700 < (v1 + p1) then some 0 else some 1) else none
theorem g_X9_haveRoomFor {h : AH} {p0 : Nat} {p1 : Int32} {x : Int32} (e : f_X9_haveRoomFor h p0 p1 = some x) : kd h p0 = 10 + 1 := by
  unfold f_X9_haveRoomFor at e
  by_cases hk : kd h p0 = 10 + 1
  · exact hk
  · rw [if_neg hk] at e
    cases e
theorem km_X9_haveRoomFor : KM yX9_haveRoomFor M_X9_haveRoomFor 1 := ⟨in_tb 343 (by decide +kernel) rfl, in_tb 5 (by decide +kernel) rfl, by decide +kernel, rfl, rfl⟩
theorem hm_X9_haveRoomFor : M_X9_haveRoomFor.2.2.2.2.2.1 = 0 ∧ M_X9_haveRoomFor.2.2.2.2.2.2.1 = 0 := ⟨rfl, rfl⟩
section
variable {l : Launch} {g : GG}
end
set_option maxRecDepth 100000 in
set_option maxHeartbeats 4000000 in
theorem c_X9_haveRoomFor (l : Launch) (g : GG) (h : AH) (p0 : Nat) (p1 : Int32) : CN l g yX9_haveRoomFor M_X9_haveRoomFor false [.ref p0, .int p1] h ((rPi h)) (f_X9_haveRoomFor h p0 p1) := by
  refine CN.of (by decide) rfl (fun hh => by first | rfl | cases hh) (Nat.le_of_ble_eq_true rfl) ?_
  unfold f_X9_haveRoomFor
  refine a_gd (fun hkd => ?_)
  refine a_aload_n dX9_haveRoomFor_0 rfl 0 rfl ?_
  refine a_geti kc10 3 dX9_haveRoomFor_1 (by decide) rfl w_fieldLink_RainCover_Tellings_21 (fun v1 => ?_)
  refine a_iload_n dX9_haveRoomFor_4 rfl 1 rfl ?_
  refine a_iadd dX9_haveRoomFor_5 ?_
  refine a_sipush (v := 700) dX9_haveRoomFor_6 (by decide) ?_
  refine a_icmp_gt 16 dX9_haveRoomFor_9 (by decide) (fun c2 => ?_) (fun c2 => ?_)
  · refine a_iconst (v := 0) dX9_haveRoomFor_16 (by decide) ?_
    exact a_zret dX9_haveRoomFor_17 rfl (Or.inl rfl) rfl (by decide) (by decide)
  · refine a_iconst (v := 1) dX9_haveRoomFor_12 (by decide) ?_
    refine a_goto 17 dX9_haveRoomFor_13 (by decide) ?_
    exact a_zret dX9_haveRoomFor_17 rfl (Or.inr rfl) rfl (by decide) (by decide)
theorem dX9_tell_0 : decode cX9_tell 0 = .ok (.iload_n 1, 1) := by decide +kernel
theorem dX9_tell_1 : decode cX9_tell 1 = .ok (.bipush 16, 2) := by decide +kernel
theorem dX9_tell_3 : decode cX9_tell 3 = .ok (.imul, 1) := by decide +kernel
theorem dX9_tell_4 : decode cX9_tell 4 = .ok (.iload_n 2, 1) := by decide +kernel
theorem dX9_tell_5 : decode cX9_tell 5 = .ok (.iadd, 1) := by decide +kernel
theorem dX9_tell_6 : decode cX9_tell 6 = .ok (.bipush 12, 2) := by decide +kernel
theorem dX9_tell_8 : decode cX9_tell 8 = .ok (.imul, 1) := by decide +kernel
theorem dX9_tell_9 : decode cX9_tell 9 = .ok (.iload_n 3, 1) := by decide +kernel
theorem dX9_tell_10 : decode cX9_tell 10 = .ok (.iadd, 1) := by decide +kernel
theorem dX9_tell_11 : decode cX9_tell 11 = .ok (.istore 5, 2) := by decide +kernel
theorem dX9_tell_13 : decode cX9_tell 13 = .ok (.aload_n 0, 1) := by decide +kernel
theorem dX9_tell_14 : decode cX9_tell 14 = .ok (.dup, 1) := by decide +kernel
theorem dX9_tell_15 : decode cX9_tell 15 = .ok (.getfield 21, 3) := by decide +kernel
theorem dX9_tell_18 : decode cX9_tell 18 = .ok (.iconst 1, 1) := by decide +kernel
theorem dX9_tell_19 : decode cX9_tell 19 = .ok (.iadd, 1) := by decide +kernel
theorem dX9_tell_20 : decode cX9_tell 20 = .ok (.putfield 21, 3) := by decide +kernel
theorem dX9_tell_23 : decode cX9_tell 23 = .ok (.aload_n 0, 1) := by decide +kernel
theorem dX9_tell_24 : decode cX9_tell 24 = .ok (.getfield 15, 3) := by decide +kernel
theorem dX9_tell_27 : decode cX9_tell 27 = .ok (.aload_n 0, 1) := by decide +kernel
theorem dX9_tell_28 : decode cX9_tell 28 = .ok (.getfield 21, 3) := by decide +kernel
theorem dX9_tell_31 : decode cX9_tell 31 = .ok (.aload_n 0, 1) := by decide +kernel
theorem dX9_tell_32 : decode cX9_tell 32 = .ok (.getfield 9, 3) := by decide +kernel
theorem dX9_tell_35 : decode cX9_tell 35 = .ok (.iload 5, 2) := by decide +kernel
theorem dX9_tell_37 : decode cX9_tell 37 = .ok (.iaload, 1) := by decide +kernel
theorem dX9_tell_38 : decode cX9_tell 38 = .ok (.iastore, 1) := by decide +kernel
theorem dX9_tell_39 : decode cX9_tell 39 = .ok (.aload_n 0, 1) := by decide +kernel
theorem dX9_tell_40 : decode cX9_tell 40 = .ok (.getfield 18, 3) := by decide +kernel
theorem dX9_tell_43 : decode cX9_tell 43 = .ok (.aload_n 0, 1) := by decide +kernel
theorem dX9_tell_44 : decode cX9_tell 44 = .ok (.getfield 21, 3) := by decide +kernel
theorem dX9_tell_47 : decode cX9_tell 47 = .ok (.iload 4, 2) := by decide +kernel
theorem dX9_tell_49 : decode cX9_tell 49 = .ok (.iastore, 1) := by decide +kernel
theorem dX9_tell_50 : decode cX9_tell 50 = .ok (.aload_n 0, 1) := by decide +kernel
theorem dX9_tell_51 : decode cX9_tell 51 = .ok (.getfield 9, 3) := by decide +kernel
theorem dX9_tell_54 : decode cX9_tell 54 = .ok (.iload 5, 2) := by decide +kernel
theorem dX9_tell_56 : decode cX9_tell 56 = .ok (.aload_n 0, 1) := by decide +kernel
theorem dX9_tell_57 : decode cX9_tell 57 = .ok (.getfield 21, 3) := by decide +kernel
theorem dX9_tell_60 : decode cX9_tell 60 = .ok (.iastore, 1) := by decide +kernel
theorem dX9_tell_61 : decode cX9_tell 61 = .ok (.aload_n 0, 1) := by decide +kernel
theorem dX9_tell_62 : decode cX9_tell 62 = .ok (.getfield 21, 3) := by decide +kernel
theorem dX9_tell_65 : decode cX9_tell 65 = .ok (.ireturn, 1) := by decide +kernel
abbrev M_X9_tell : MI := (RX9, cX9_tell, 6, (some .int), ({ frames := 0, cells := 0, slots := 0, locals := 0 } : Room), 0, 0, false)
def f_X9_tell (h0 : AH) (p0 : Nat) (p1 : Int32) (p2 : Int32) (p3 : Int32) (p4 : Int32) : Option (Int32 × AH) := if kd h0 p0 = 10 + 1 then (xgi h0 p0 10 3).bind fun v1 => (xpi h0 p0 10 3 (v1 + 1)).bind fun h2 => (xgr h2 p0 10 1).bind fun v3 => (xgi h2 p0 10 3).bind fun v4 => (xgr h2 p0 10 0).bind fun v5 => (xia h2 v5 ((((p1 * 16) + p2) * 12) + p3)).bind fun v6 => (xis h2 v3 v4 v6).bind fun h7 => (xgr h7 p0 10 2).bind fun v8 => (xgi h7 p0 10 3).bind fun v9 => (xis h7 v8 v9 p4).bind fun h10 => (xgr h10 p0 10 0).bind fun v11 => (xgi h10 p0 10 3).bind fun v12 => (xis h10 v11 ((((p1 * 16) + p2) * 12) + p3) v12).bind fun h13 => (xgi h13 p0 10 3).bind fun v14 => some (v14, h13) else none
theorem g_X9_tell {h0 : AH} {p0 : Nat} {p1 : Int32} {p2 : Int32} {p3 : Int32} {p4 : Int32} {x : (Int32 × AH)} (e : f_X9_tell h0 p0 p1 p2 p3 p4 = some x) : kd h0 p0 = 10 + 1 := by
  unfold f_X9_tell at e
  by_cases hk : kd h0 p0 = 10 + 1
  · exact hk
  · rw [if_neg hk] at e
    cases e
theorem km_X9_tell : KM yX9_tell M_X9_tell 4 := ⟨in_tb 347 (by decide +kernel) rfl, in_tb 5 (by decide +kernel) rfl, by decide +kernel, rfl, rfl⟩
theorem hm_X9_tell : M_X9_tell.2.2.2.2.2.1 = 0 ∧ M_X9_tell.2.2.2.2.2.2.1 = 0 := ⟨rfl, rfl⟩
section
variable {l : Launch} {g : GG}
end
set_option maxRecDepth 100000 in
set_option maxHeartbeats 4000000 in
theorem c_X9_tell (l : Launch) (g : GG) (h0 : AH) (p0 : Nat) (p1 : Int32) (p2 : Int32) (p3 : Int32) (p4 : Int32) : CN l g yX9_tell M_X9_tell false [.ref p0, .int p1, .int p2, .int p3, .int p4] h0 rSi (f_X9_tell h0 p0 p1 p2 p3 p4) := by
  refine CN.of (by decide) rfl (fun hh => by first | rfl | cases hh) (Nat.le_of_ble_eq_true rfl) ?_
  unfold f_X9_tell
  refine a_gd (fun hkd => ?_)
  refine a_iload_n dX9_tell_0 rfl 1 rfl ?_
  refine a_bipush (v := 16) dX9_tell_1 (by decide) ?_
  refine a_imul dX9_tell_3 ?_
  refine a_iload_n dX9_tell_4 rfl 2 rfl ?_
  refine a_iadd dX9_tell_5 ?_
  refine a_bipush (v := 12) dX9_tell_6 (by decide) ?_
  refine a_imul dX9_tell_8 ?_
  refine a_iload_n dX9_tell_9 rfl 3 rfl ?_
  refine a_iadd dX9_tell_10 ?_
  refine a_istore (lc2 := [(5, .int ((((p1 * 16) + p2) * 12) + p3)), (0, .ref p0), (1, .int p1), (2, .int p2), (3, .int p3), (4, .int p4)]) dX9_tell_11 (by decide) rfl ?_
  refine a_aload_n dX9_tell_13 rfl 1 rfl ?_
  refine a_dup dX9_tell_14 rfl ?_
  refine a_geti kc10 3 dX9_tell_15 (by decide) rfl w_fieldLink_RainCover_Tellings_21 (fun v1 => ?_)
  refine a_iconst (v := 1) dX9_tell_18 (by decide) ?_
  refine a_iadd dX9_tell_19 ?_
  refine a_puti kc10 3 dX9_tell_20 (by decide) rfl w_fieldLink_RainCover_Tellings_21 rfl rfl (fun h2 => ?_)
  refine a_aload_n dX9_tell_23 rfl 1 rfl ?_
  refine a_getr kc10 1 dX9_tell_24 (by decide) rfl w_fieldLink_RainCover_Tellings_15 (fun v3 => ?_)
  refine a_aload_n dX9_tell_27 rfl 1 rfl ?_
  refine a_geti kc10 3 dX9_tell_28 (by decide) rfl w_fieldLink_RainCover_Tellings_21 (fun v4 => ?_)
  refine a_aload_n dX9_tell_31 rfl 1 rfl ?_
  refine a_getr kc10 0 dX9_tell_32 (by decide) rfl w_fieldLink_RainCover_Tellings_9 (fun v5 => ?_)
  refine a_iload dX9_tell_35 0 rfl ?_
  refine a_iald dX9_tell_37 (fun v6 => ?_)
  refine a_iast dX9_tell_38 (fun h7 => ?_)
  refine a_aload_n dX9_tell_39 rfl 1 rfl ?_
  refine a_getr kc10 2 dX9_tell_40 (by decide) rfl w_fieldLink_RainCover_Tellings_18 (fun v8 => ?_)
  refine a_aload_n dX9_tell_43 rfl 1 rfl ?_
  refine a_geti kc10 3 dX9_tell_44 (by decide) rfl w_fieldLink_RainCover_Tellings_21 (fun v9 => ?_)
  refine a_iload dX9_tell_47 5 rfl ?_
  refine a_iast dX9_tell_49 (fun h10 => ?_)
  refine a_aload_n dX9_tell_50 rfl 1 rfl ?_
  refine a_getr kc10 0 dX9_tell_51 (by decide) rfl w_fieldLink_RainCover_Tellings_9 (fun v11 => ?_)
  refine a_iload dX9_tell_54 0 rfl ?_
  refine a_aload_n dX9_tell_56 rfl 1 rfl ?_
  refine a_geti kc10 3 dX9_tell_57 (by decide) rfl w_fieldLink_RainCover_Tellings_21 (fun v12 => ?_)
  refine a_iast dX9_tell_60 (fun h13 => ?_)
  refine a_aload_n dX9_tell_61 rfl 1 rfl ?_
  refine a_geti kc10 3 dX9_tell_62 (by decide) rfl w_fieldLink_RainCover_Tellings_21 (fun v14 => ?_)
  exact a_iret dX9_tell_65 rfl rfl (by decide) (by decide)
theorem dX11_rain_0 : decode cX11_rain 0 = .ok (.aload_n 0, 1) := by decide +kernel
theorem dX11_rain_1 : decode cX11_rain 1 = .ok (.iload_n 1, 1) := by decide +kernel
theorem dX11_rain_2 : decode cX11_rain 2 = .ok (.iload_n 2, 1) := by decide +kernel
theorem dX11_rain_3 : decode cX11_rain 3 = .ok (.iload_n 3, 1) := by decide +kernel
theorem dX11_rain_4 : decode cX11_rain 4 = .ok (.invokevirtual 134, 3) := by decide +kernel
theorem dX11_rain_7 : decode cX11_rain 7 = .ok (.ifCond .ne 5, 3) := by decide +kernel
theorem dX11_rain_10 : decode cX11_rain 10 = .ok (.iconst (-1), 1) := by decide +kernel
theorem dX11_rain_11 : decode cX11_rain 11 = .ok (.ireturn, 1) := by decide +kernel
theorem dX11_rain_12 : decode cX11_rain 12 = .ok (.iload 4, 2) := by decide +kernel
theorem dX11_rain_14 : decode cX11_rain 14 = .ok (.iconst (-1), 1) := by decide +kernel
theorem dX11_rain_15 : decode cX11_rain 15 = .ok (.sipush 9999, 3) := by decide +kernel
theorem dX11_rain_18 : decode cX11_rain 18 = .ok (.invokestatic 120, 3) := by decide +kernel
theorem dX11_rain_21 : decode cX11_rain 21 = .ok (.ifCond .ne 6, 3) := by decide +kernel
theorem dX11_rain_24 : decode cX11_rain 24 = .ok (.bipush (-2), 2) := by decide +kernel
theorem dX11_rain_26 : decode cX11_rain 26 = .ok (.ireturn, 1) := by decide +kernel
theorem dX11_rain_27 : decode cX11_rain 27 = .ok (.aload_n 0, 1) := by decide +kernel
theorem dX11_rain_28 : decode cX11_rain 28 = .ok (.getfield 30, 3) := by decide +kernel
theorem dX11_rain_31 : decode cX11_rain 31 = .ok (.iconst 1, 1) := by decide +kernel
theorem dX11_rain_32 : decode cX11_rain 32 = .ok (.invokevirtual 137, 3) := by decide +kernel
theorem dX11_rain_35 : decode cX11_rain 35 = .ok (.ifCond .ne 6, 3) := by decide +kernel
theorem dX11_rain_38 : decode cX11_rain 38 = .ok (.bipush (-4), 2) := by decide +kernel
theorem dX11_rain_40 : decode cX11_rain 40 = .ok (.ireturn, 1) := by decide +kernel
theorem dX11_rain_41 : decode cX11_rain 41 = .ok (.aload_n 0, 1) := by decide +kernel
theorem dX11_rain_42 : decode cX11_rain 42 = .ok (.getfield 30, 3) := by decide +kernel
theorem dX11_rain_45 : decode cX11_rain 45 = .ok (.iload_n 1, 1) := by decide +kernel
theorem dX11_rain_46 : decode cX11_rain 46 = .ok (.iload_n 2, 1) := by decide +kernel
theorem dX11_rain_47 : decode cX11_rain 47 = .ok (.iload_n 3, 1) := by decide +kernel
theorem dX11_rain_48 : decode cX11_rain 48 = .ok (.iload 4, 2) := by decide +kernel
theorem dX11_rain_50 : decode cX11_rain 50 = .ok (.invokevirtual 140, 3) := by decide +kernel
theorem dX11_rain_53 : decode cX11_rain 53 = .ok (.ireturn, 1) := by decide +kernel
abbrev M_X11_rain : MI := (RX11, cX11_rain, 5, (some .int), ({ frames := 3, cells := 0, slots := 0, locals := 66 } : Room), 0, 0, false)
def f_X11_rain (h0 : AH) (p0 : Nat) (p1 : Int32) (p2 : Int32) (p3 : Int32) (p4 : Int32) : Option (Int32 × AH) := if kd h0 p0 = 12 + 1 then (f_X11_isGaugeWeek h0 p0 p1 p2 p3).bind fun v1 => (if v1 = 0 then some ((-1), h0) else (f_X11_within h0 p4 (-1) 9999).bind fun v3 => (if v3 = 0 then some ((-2), h0) else (xgr h0 p0 12 4).bind fun v5 => (f_X9_haveRoomFor h0 v5 1).bind fun v6 => (if v6 = 0 then some ((-4), h0) else (xgr h0 p0 12 4).bind fun v8 => (f_X9_tell h0 v8 p1 p2 p3 p4).bind fun q9 => some (q9.1, q9.2)))) else none
theorem g_X11_rain {h0 : AH} {p0 : Nat} {p1 : Int32} {p2 : Int32} {p3 : Int32} {p4 : Int32} {x : (Int32 × AH)} (e : f_X11_rain h0 p0 p1 p2 p3 p4 = some x) : kd h0 p0 = 12 + 1 := by
  unfold f_X11_rain at e
  by_cases hk : kd h0 p0 = 12 + 1
  · exact hk
  · rw [if_neg hk] at e
    cases e
theorem km_X11_rain : KM yX11_rain M_X11_rain 4 := ⟨in_tb 335 (by decide +kernel) rfl, in_tb 1 (by decide +kernel) rfl, by decide +kernel, rfl, rfl⟩
theorem hm_X11_rain : M_X11_rain.2.2.2.2.2.1 = 0 ∧ M_X11_rain.2.2.2.2.2.2.1 = 0 := ⟨rfl, rfl⟩
section
variable {l : Launch} {g : GG}
end
set_option maxRecDepth 100000 in
set_option maxHeartbeats 4000000 in
theorem c_X11_rain (l : Launch) (g : GG) (h0 : AH) (p0 : Nat) (p1 : Int32) (p2 : Int32) (p3 : Int32) (p4 : Int32) : CN l g yX11_rain M_X11_rain false [.ref p0, .int p1, .int p2, .int p3, .int p4] h0 rSi (f_X11_rain h0 p0 p1 p2 p3 p4) := by
  refine CN.of (by decide) rfl (fun hh => by first | rfl | cases hh) (Nat.le_of_ble_eq_true rfl) ?_
  unfold f_X11_rain
  refine a_gd (fun hkd => ?_)
  refine a_aload_n dX11_rain_0 rfl 0 rfl ?_
  refine a_iload_n dX11_rain_1 rfl 1 rfl ?_
  refine a_iload_n dX11_rain_2 rfl 2 rfl ?_
  refine a_iload_n dX11_rain_3 rfl 3 rfl ?_
  refine a_cV_Pi (r := p0) (ci := 12) (as := [.int p1, .int p2, .int p3]) (st := []) dX11_rain_4 (c_X11_isGaugeWeek l g h0 p0 p1 p2 p3) rfl km_X11_isGaugeWeek (hm_X11_isGaugeWeek) rfl (by decide) rfl (fun _ ee => g_X11_isGaugeWeek ee) w_methodLink_RainCover_134 w_instanceMethod_RainCover_isGaugeWeek__III_Z w_selects_RainCover_RainCover_isGaugeWeek__III_Z_RainCover_isGaugeWeek__III_Z ⟨⟨by decide, by decide⟩, ⟨by decide, by decide⟩⟩ (Nat.le_of_ble_eq_true rfl) (fun v1 => ?_)
  refine a_if_ne 12 dX11_rain_7 (by decide) (fun c2 => ?_) (fun c2 => ?_)
  · refine a_iconst (v := (-1)) dX11_rain_10 (by decide) ?_
    exact a_iret dX11_rain_11 rfl rfl (by decide) (by decide)
  · refine a_iload dX11_rain_12 4 rfl ?_
    refine a_iconst (v := (-1)) dX11_rain_14 (by decide) ?_
    refine a_sipush (v := 9999) dX11_rain_15 (by decide) ?_
    refine a_cS_Pi (as := [.int p4, .int (-1), .int 9999]) (st := []) dX11_rain_18 (c_X11_within l g h0 p4 (-1) 9999) rfl km_X11_within (hm_X11_within) w_methodLink_RainCover_120 w_static_RainCover_within__III_Z ⟨⟨by decide, by decide⟩, ⟨by decide, by decide⟩⟩ (Nat.le_of_ble_eq_true rfl) (fun v3 => ?_)
    refine a_if_ne 27 dX11_rain_21 (by decide) (fun c4 => ?_) (fun c4 => ?_)
    · refine a_bipush (v := (-2)) dX11_rain_24 (by decide) ?_
      exact a_iret dX11_rain_26 rfl rfl (by decide) (by decide)
    · refine a_aload_n dX11_rain_27 rfl 0 rfl ?_
      refine a_getr kc12 4 dX11_rain_28 (by decide) rfl w_fieldLink_RainCover_30 (fun v5 => ?_)
      refine a_iconst (v := 1) dX11_rain_31 (by decide) ?_
      refine a_cV_Pi (r := v5) (ci := 10) (as := [.int 1]) (st := []) dX11_rain_32 (c_X9_haveRoomFor l g h0 v5 1) rfl km_X9_haveRoomFor (hm_X9_haveRoomFor) rfl (by decide) rfl (fun _ ee => g_X9_haveRoomFor ee) w_methodLink_RainCover_137 w_instanceMethod_RainCover_Tellings_haveRoomFor__I_Z w_selects_RainCover_Tellings_RainCover_Tellings_haveRoomFor__I_Z_RainCover_Tellings_haveRoomFor__I_Z ⟨⟨by decide, by decide⟩, ⟨by decide, by decide⟩⟩ (Nat.le_of_ble_eq_true rfl) (fun v6 => ?_)
      refine a_if_ne 41 dX11_rain_35 (by decide) (fun c7 => ?_) (fun c7 => ?_)
      · refine a_bipush (v := (-4)) dX11_rain_38 (by decide) ?_
        exact a_iret dX11_rain_40 rfl rfl (by decide) (by decide)
      · refine a_aload_n dX11_rain_41 rfl 0 rfl ?_
        refine a_getr kc12 4 dX11_rain_42 (by decide) rfl w_fieldLink_RainCover_30 (fun v8 => ?_)
        refine a_iload_n dX11_rain_45 rfl 1 rfl ?_
        refine a_iload_n dX11_rain_46 rfl 2 rfl ?_
        refine a_iload_n dX11_rain_47 rfl 3 rfl ?_
        refine a_iload dX11_rain_48 4 rfl ?_
        refine a_cV_Si (r := v8) (ci := 10) (as := [.int p1, .int p2, .int p3, .int p4]) (st := []) dX11_rain_50 (c_X9_tell l g h0 v8 p1 p2 p3 p4) rfl km_X9_tell (hm_X9_tell) rfl (by decide) rfl (fun _ ee => g_X9_tell ee) w_methodLink_RainCover_140 w_instanceMethod_RainCover_Tellings_tell__IIII_I w_selects_RainCover_Tellings_RainCover_Tellings_tell__IIII_I_RainCover_Tellings_tell__IIII_I ⟨⟨by decide, by decide⟩, ⟨by decide, by decide⟩⟩ (Nat.le_of_ble_eq_true rfl) (fun q9 => ?_)
        exact a_iret dX11_rain_53 rfl rfl (by decide) (by decide)
theorem dX11_isDistrictWeek_0 : decode cX11_isDistrictWeek 0 = .ok (.iload_n 0, 1) := by decide +kernel
theorem dX11_isDistrictWeek_1 : decode cX11_isDistrictWeek 1 = .ok (.iconst 0, 1) := by decide +kernel
theorem dX11_isDistrictWeek_2 : decode cX11_isDistrictWeek 2 = .ok (.iconst 3, 1) := by decide +kernel
theorem dX11_isDistrictWeek_3 : decode cX11_isDistrictWeek 3 = .ok (.invokestatic 120, 3) := by decide +kernel
theorem dX11_isDistrictWeek_6 : decode cX11_isDistrictWeek 6 = .ok (.ifCond .eq 24, 3) := by decide +kernel
theorem dX11_isDistrictWeek_9 : decode cX11_isDistrictWeek 9 = .ok (.iload_n 1, 1) := by decide +kernel
theorem dX11_isDistrictWeek_10 : decode cX11_isDistrictWeek 10 = .ok (.invokestatic 100, 3) := by decide +kernel
theorem dX11_isDistrictWeek_13 : decode cX11_isDistrictWeek 13 = .ok (.ifCond .eq 17, 3) := by decide +kernel
theorem dX11_isDistrictWeek_16 : decode cX11_isDistrictWeek 16 = .ok (.iload_n 2, 1) := by decide +kernel
theorem dX11_isDistrictWeek_17 : decode cX11_isDistrictWeek 17 = .ok (.iconst 0, 1) := by decide +kernel
theorem dX11_isDistrictWeek_18 : decode cX11_isDistrictWeek 18 = .ok (.bipush 11, 2) := by decide +kernel
theorem dX11_isDistrictWeek_20 : decode cX11_isDistrictWeek 20 = .ok (.invokestatic 120, 3) := by decide +kernel
theorem dX11_isDistrictWeek_23 : decode cX11_isDistrictWeek 23 = .ok (.ifCond .eq 7, 3) := by decide +kernel
theorem dX11_isDistrictWeek_26 : decode cX11_isDistrictWeek 26 = .ok (.iconst 1, 1) := by decide +kernel
theorem dX11_isDistrictWeek_27 : decode cX11_isDistrictWeek 27 = .ok (.goto 4, 3) := by decide +kernel
theorem dX11_isDistrictWeek_30 : decode cX11_isDistrictWeek 30 = .ok (.iconst 0, 1) := by decide +kernel
theorem dX11_isDistrictWeek_31 : decode cX11_isDistrictWeek 31 = .ok (.ireturn, 1) := by decide +kernel
abbrev M_X11_isDistrictWeek : MI := (RX11, cX11_isDistrictWeek, 3, (some .boolean), ({ frames := 2, cells := 0, slots := 0, locals := 42 } : Room), 0, 0, false)
def f_X11_isDistrictWeek (h : AH) (p0 : Int32) (p1 : Int32) (p2 : Int32) : Option Int32 := (f_X11_within h p0 0 3).bind fun v1 => (if v1 = 0 then some 0 else (f_X11_isSeason h p1).bind fun v3 => (if v3 = 0 then some 0 else (f_X11_within h p2 0 11).bind fun v5 => (if v5 = 0 then some 0 else some 1)))
theorem km_X11_isDistrictWeek : KM yX11_isDistrictWeek M_X11_isDistrictWeek 3 := ⟨in_tb 354 (by decide +kernel) rfl, in_tb 1 (by decide +kernel) rfl, by decide +kernel, rfl, rfl⟩
theorem hm_X11_isDistrictWeek : M_X11_isDistrictWeek.2.2.2.2.2.1 = 0 ∧ M_X11_isDistrictWeek.2.2.2.2.2.2.1 = 0 := ⟨rfl, rfl⟩
section
variable {l : Launch} {g : GG}
end
set_option maxRecDepth 100000 in
set_option maxHeartbeats 4000000 in
theorem c_X11_isDistrictWeek (l : Launch) (g : GG) (h : AH) (p0 : Int32) (p1 : Int32) (p2 : Int32) : CN l g yX11_isDistrictWeek M_X11_isDistrictWeek false [.int p0, .int p1, .int p2] h ((rPi h)) (f_X11_isDistrictWeek h p0 p1 p2) := by
  refine CN.of (by decide) rfl (fun hh => by first | rfl | cases hh) (Nat.le_of_ble_eq_true rfl) ?_
  unfold f_X11_isDistrictWeek
  refine a_iload_n dX11_isDistrictWeek_0 rfl 0 rfl ?_
  refine a_iconst (v := 0) dX11_isDistrictWeek_1 (by decide) ?_
  refine a_iconst (v := 3) dX11_isDistrictWeek_2 (by decide) ?_
  refine a_cS_Pi (as := [.int p0, .int 0, .int 3]) (st := []) dX11_isDistrictWeek_3 (c_X11_within l g h p0 0 3) rfl km_X11_within (hm_X11_within) w_methodLink_RainCover_120 w_static_RainCover_within__III_Z ⟨⟨by decide, by decide⟩, ⟨by decide, by decide⟩⟩ (Nat.le_of_ble_eq_true rfl) (fun v1 => ?_)
  refine a_if_eq 30 dX11_isDistrictWeek_6 (by decide) (fun c2 => ?_) (fun c2 => ?_)
  · refine a_iconst (v := 0) dX11_isDistrictWeek_30 (by decide) ?_
    exact a_zret dX11_isDistrictWeek_31 rfl (Or.inl rfl) rfl (by decide) (by decide)
  · refine a_iload_n dX11_isDistrictWeek_9 rfl 1 rfl ?_
    refine a_cS_Pi (as := [.int p1]) (st := []) dX11_isDistrictWeek_10 (c_X11_isSeason l g h p1) rfl km_X11_isSeason (hm_X11_isSeason) w_methodLink_RainCover_100 w_static_RainCover_isSeason__I_Z ⟨⟨by decide, by decide⟩, ⟨by decide, by decide⟩⟩ (Nat.le_of_ble_eq_true rfl) (fun v3 => ?_)
    refine a_if_eq 30 dX11_isDistrictWeek_13 (by decide) (fun c4 => ?_) (fun c4 => ?_)
    · refine a_iconst (v := 0) dX11_isDistrictWeek_30 (by decide) ?_
      exact a_zret dX11_isDistrictWeek_31 rfl (Or.inl rfl) rfl (by decide) (by decide)
    · refine a_iload_n dX11_isDistrictWeek_16 rfl 2 rfl ?_
      refine a_iconst (v := 0) dX11_isDistrictWeek_17 (by decide) ?_
      refine a_bipush (v := 11) dX11_isDistrictWeek_18 (by decide) ?_
      refine a_cS_Pi (as := [.int p2, .int 0, .int 11]) (st := []) dX11_isDistrictWeek_20 (c_X11_within l g h p2 0 11) rfl km_X11_within (hm_X11_within) w_methodLink_RainCover_120 w_static_RainCover_within__III_Z ⟨⟨by decide, by decide⟩, ⟨by decide, by decide⟩⟩ (Nat.le_of_ble_eq_true rfl) (fun v5 => ?_)
      refine a_if_eq 30 dX11_isDistrictWeek_23 (by decide) (fun c6 => ?_) (fun c6 => ?_)
      · refine a_iconst (v := 0) dX11_isDistrictWeek_30 (by decide) ?_
        exact a_zret dX11_isDistrictWeek_31 rfl (Or.inl rfl) rfl (by decide) (by decide)
      · refine a_iconst (v := 1) dX11_isDistrictWeek_26 (by decide) ?_
        refine a_goto 31 dX11_isDistrictWeek_27 (by decide) ?_
        exact a_zret dX11_isDistrictWeek_31 rfl (Or.inr rfl) rfl (by decide) (by decide)
theorem dX11_green_0 : decode cX11_green 0 = .ok (.iload_n 1, 1) := by decide +kernel
theorem dX11_green_1 : decode cX11_green 1 = .ok (.iload_n 2, 1) := by decide +kernel
theorem dX11_green_2 : decode cX11_green 2 = .ok (.iload_n 3, 1) := by decide +kernel
theorem dX11_green_3 : decode cX11_green 3 = .ok (.invokestatic 144, 3) := by decide +kernel
theorem dX11_green_6 : decode cX11_green 6 = .ok (.ifCond .ne 5, 3) := by decide +kernel
theorem dX11_green_9 : decode cX11_green 9 = .ok (.iconst (-1), 1) := by decide +kernel
theorem dX11_green_10 : decode cX11_green 10 = .ok (.ireturn, 1) := by decide +kernel
theorem dX11_green_11 : decode cX11_green 11 = .ok (.iload 4, 2) := by decide +kernel
theorem dX11_green_13 : decode cX11_green 13 = .ok (.iconst (-1), 1) := by decide +kernel
theorem dX11_green_14 : decode cX11_green 14 = .ok (.bipush 100, 2) := by decide +kernel
theorem dX11_green_16 : decode cX11_green 16 = .ok (.invokestatic 120, 3) := by decide +kernel
theorem dX11_green_19 : decode cX11_green 19 = .ok (.ifCond .ne 6, 3) := by decide +kernel
theorem dX11_green_22 : decode cX11_green 22 = .ok (.bipush (-2), 2) := by decide +kernel
theorem dX11_green_24 : decode cX11_green 24 = .ok (.ireturn, 1) := by decide +kernel
theorem dX11_green_25 : decode cX11_green 25 = .ok (.aload_n 0, 1) := by decide +kernel
theorem dX11_green_26 : decode cX11_green 26 = .ok (.getfield 30, 3) := by decide +kernel
theorem dX11_green_29 : decode cX11_green 29 = .ok (.iconst 1, 1) := by decide +kernel
theorem dX11_green_30 : decode cX11_green 30 = .ok (.invokevirtual 137, 3) := by decide +kernel
theorem dX11_green_33 : decode cX11_green 33 = .ok (.ifCond .ne 6, 3) := by decide +kernel
theorem dX11_green_36 : decode cX11_green 36 = .ok (.bipush (-4), 2) := by decide +kernel
theorem dX11_green_38 : decode cX11_green 38 = .ok (.ireturn, 1) := by decide +kernel
theorem dX11_green_39 : decode cX11_green 39 = .ok (.aload_n 0, 1) := by decide +kernel
theorem dX11_green_40 : decode cX11_green 40 = .ok (.getfield 30, 3) := by decide +kernel
theorem dX11_green_43 : decode cX11_green 43 = .ok (.bipush 8, 2) := by decide +kernel
theorem dX11_green_45 : decode cX11_green 45 = .ok (.iload_n 1, 1) := by decide +kernel
theorem dX11_green_46 : decode cX11_green 46 = .ok (.iadd, 1) := by decide +kernel
theorem dX11_green_47 : decode cX11_green 47 = .ok (.iload_n 2, 1) := by decide +kernel
theorem dX11_green_48 : decode cX11_green 48 = .ok (.iload_n 3, 1) := by decide +kernel
theorem dX11_green_49 : decode cX11_green 49 = .ok (.iload 4, 2) := by decide +kernel
theorem dX11_green_51 : decode cX11_green 51 = .ok (.invokevirtual 140, 3) := by decide +kernel
theorem dX11_green_54 : decode cX11_green 54 = .ok (.ireturn, 1) := by decide +kernel
abbrev M_X11_green : MI := (RX11, cX11_green, 5, (some .int), ({ frames := 3, cells := 0, slots := 0, locals := 64 } : Room), 0, 0, false)
def f_X11_green (h0 : AH) (p0 : Nat) (p1 : Int32) (p2 : Int32) (p3 : Int32) (p4 : Int32) : Option (Int32 × AH) := if kd h0 p0 = 12 + 1 then (f_X11_isDistrictWeek h0 p1 p2 p3).bind fun v1 => (if v1 = 0 then some ((-1), h0) else (f_X11_within h0 p4 (-1) 100).bind fun v3 => (if v3 = 0 then some ((-2), h0) else (xgr h0 p0 12 4).bind fun v5 => (f_X9_haveRoomFor h0 v5 1).bind fun v6 => (if v6 = 0 then some ((-4), h0) else (xgr h0 p0 12 4).bind fun v8 => (f_X9_tell h0 v8 (8 + p1) p2 p3 p4).bind fun q9 => some (q9.1, q9.2)))) else none
theorem g_X11_green {h0 : AH} {p0 : Nat} {p1 : Int32} {p2 : Int32} {p3 : Int32} {p4 : Int32} {x : (Int32 × AH)} (e : f_X11_green h0 p0 p1 p2 p3 p4 = some x) : kd h0 p0 = 12 + 1 := by
  unfold f_X11_green at e
  by_cases hk : kd h0 p0 = 12 + 1
  · exact hk
  · rw [if_neg hk] at e
    cases e
theorem km_X11_green : KM yX11_green M_X11_green 4 := ⟨in_tb 351 (by decide +kernel) rfl, in_tb 1 (by decide +kernel) rfl, by decide +kernel, rfl, rfl⟩
theorem hm_X11_green : M_X11_green.2.2.2.2.2.1 = 0 ∧ M_X11_green.2.2.2.2.2.2.1 = 0 := ⟨rfl, rfl⟩
section
variable {l : Launch} {g : GG}
end
set_option maxRecDepth 100000 in
set_option maxHeartbeats 4000000 in
theorem c_X11_green (l : Launch) (g : GG) (h0 : AH) (p0 : Nat) (p1 : Int32) (p2 : Int32) (p3 : Int32) (p4 : Int32) : CN l g yX11_green M_X11_green false [.ref p0, .int p1, .int p2, .int p3, .int p4] h0 rSi (f_X11_green h0 p0 p1 p2 p3 p4) := by
  refine CN.of (by decide) rfl (fun hh => by first | rfl | cases hh) (Nat.le_of_ble_eq_true rfl) ?_
  unfold f_X11_green
  refine a_gd (fun hkd => ?_)
  refine a_iload_n dX11_green_0 rfl 1 rfl ?_
  refine a_iload_n dX11_green_1 rfl 2 rfl ?_
  refine a_iload_n dX11_green_2 rfl 3 rfl ?_
  refine a_cS_Pi (as := [.int p1, .int p2, .int p3]) (st := []) dX11_green_3 (c_X11_isDistrictWeek l g h0 p1 p2 p3) rfl km_X11_isDistrictWeek (hm_X11_isDistrictWeek) w_methodLink_RainCover_144 w_static_RainCover_isDistrictWeek__III_Z ⟨⟨by decide, by decide⟩, ⟨by decide, by decide⟩⟩ (Nat.le_of_ble_eq_true rfl) (fun v1 => ?_)
  refine a_if_ne 11 dX11_green_6 (by decide) (fun c2 => ?_) (fun c2 => ?_)
  · refine a_iconst (v := (-1)) dX11_green_9 (by decide) ?_
    exact a_iret dX11_green_10 rfl rfl (by decide) (by decide)
  · refine a_iload dX11_green_11 4 rfl ?_
    refine a_iconst (v := (-1)) dX11_green_13 (by decide) ?_
    refine a_bipush (v := 100) dX11_green_14 (by decide) ?_
    refine a_cS_Pi (as := [.int p4, .int (-1), .int 100]) (st := []) dX11_green_16 (c_X11_within l g h0 p4 (-1) 100) rfl km_X11_within (hm_X11_within) w_methodLink_RainCover_120 w_static_RainCover_within__III_Z ⟨⟨by decide, by decide⟩, ⟨by decide, by decide⟩⟩ (Nat.le_of_ble_eq_true rfl) (fun v3 => ?_)
    refine a_if_ne 25 dX11_green_19 (by decide) (fun c4 => ?_) (fun c4 => ?_)
    · refine a_bipush (v := (-2)) dX11_green_22 (by decide) ?_
      exact a_iret dX11_green_24 rfl rfl (by decide) (by decide)
    · refine a_aload_n dX11_green_25 rfl 0 rfl ?_
      refine a_getr kc12 4 dX11_green_26 (by decide) rfl w_fieldLink_RainCover_30 (fun v5 => ?_)
      refine a_iconst (v := 1) dX11_green_29 (by decide) ?_
      refine a_cV_Pi (r := v5) (ci := 10) (as := [.int 1]) (st := []) dX11_green_30 (c_X9_haveRoomFor l g h0 v5 1) rfl km_X9_haveRoomFor (hm_X9_haveRoomFor) rfl (by decide) rfl (fun _ ee => g_X9_haveRoomFor ee) w_methodLink_RainCover_137 w_instanceMethod_RainCover_Tellings_haveRoomFor__I_Z w_selects_RainCover_Tellings_RainCover_Tellings_haveRoomFor__I_Z_RainCover_Tellings_haveRoomFor__I_Z ⟨⟨by decide, by decide⟩, ⟨by decide, by decide⟩⟩ (Nat.le_of_ble_eq_true rfl) (fun v6 => ?_)
      refine a_if_ne 39 dX11_green_33 (by decide) (fun c7 => ?_) (fun c7 => ?_)
      · refine a_bipush (v := (-4)) dX11_green_36 (by decide) ?_
        exact a_iret dX11_green_38 rfl rfl (by decide) (by decide)
      · refine a_aload_n dX11_green_39 rfl 0 rfl ?_
        refine a_getr kc12 4 dX11_green_40 (by decide) rfl w_fieldLink_RainCover_30 (fun v8 => ?_)
        refine a_bipush (v := 8) dX11_green_43 (by decide) ?_
        refine a_iload_n dX11_green_45 rfl 1 rfl ?_
        refine a_iadd dX11_green_46 ?_
        refine a_iload_n dX11_green_47 rfl 2 rfl ?_
        refine a_iload_n dX11_green_48 rfl 3 rfl ?_
        refine a_iload dX11_green_49 4 rfl ?_
        refine a_cV_Si (r := v8) (ci := 10) (as := [.int (8 + p1), .int p2, .int p3, .int p4]) (st := []) dX11_green_51 (c_X9_tell l g h0 v8 (8 + p1) p2 p3 p4) rfl km_X9_tell (hm_X9_tell) rfl (by decide) rfl (fun _ ee => g_X9_tell ee) w_methodLink_RainCover_140 w_instanceMethod_RainCover_Tellings_tell__IIII_I w_selects_RainCover_Tellings_RainCover_Tellings_tell__IIII_I_RainCover_Tellings_tell__IIII_I ⟨⟨by decide, by decide⟩, ⟨by decide, by decide⟩⟩ (Nat.le_of_ble_eq_true rfl) (fun q9 => ?_)
        exact a_iret dX11_green_54 rfl rfl (by decide) (by decide)
theorem dX9_asKnown_0 : decode cX9_asKnown 0 = .ok (.aload_n 0, 1) := by decide +kernel
theorem dX9_asKnown_1 : decode cX9_asKnown 1 = .ok (.getfield 9, 3) := by decide +kernel
theorem dX9_asKnown_4 : decode cX9_asKnown 4 = .ok (.iload_n 1, 1) := by decide +kernel
theorem dX9_asKnown_5 : decode cX9_asKnown 5 = .ok (.bipush 16, 2) := by decide +kernel
theorem dX9_asKnown_7 : decode cX9_asKnown 7 = .ok (.imul, 1) := by decide +kernel
theorem dX9_asKnown_8 : decode cX9_asKnown 8 = .ok (.iload_n 2, 1) := by decide +kernel
theorem dX9_asKnown_9 : decode cX9_asKnown 9 = .ok (.iadd, 1) := by decide +kernel
theorem dX9_asKnown_10 : decode cX9_asKnown 10 = .ok (.bipush 12, 2) := by decide +kernel
theorem dX9_asKnown_12 : decode cX9_asKnown 12 = .ok (.imul, 1) := by decide +kernel
theorem dX9_asKnown_13 : decode cX9_asKnown 13 = .ok (.iload_n 3, 1) := by decide +kernel
theorem dX9_asKnown_14 : decode cX9_asKnown 14 = .ok (.iadd, 1) := by decide +kernel
theorem dX9_asKnown_15 : decode cX9_asKnown 15 = .ok (.iaload, 1) := by decide +kernel
theorem dX9_asKnown_16 : decode cX9_asKnown 16 = .ok (.istore 5, 2) := by decide +kernel
theorem dX9_asKnown_18 : decode cX9_asKnown 18 = .ok (.iconst 0, 1) := by decide +kernel
theorem dX9_asKnown_19 : decode cX9_asKnown 19 = .ok (.istore 6, 2) := by decide +kernel
theorem dX9_asKnown_21 : decode cX9_asKnown 21 = .ok (.iload 6, 2) := by decide +kernel
theorem dX9_asKnown_23 : decode cX9_asKnown 23 = .ok (.sipush 700, 3) := by decide +kernel
theorem dX9_asKnown_26 : decode cX9_asKnown 26 = .ok (.if_icmp .ge 25, 3) := by decide +kernel
theorem dX9_asKnown_29 : decode cX9_asKnown 29 = .ok (.iload 5, 2) := by decide +kernel
theorem dX9_asKnown_31 : decode cX9_asKnown 31 = .ok (.iload 4, 2) := by decide +kernel
theorem dX9_asKnown_33 : decode cX9_asKnown 33 = .ok (.if_icmp .le 18, 3) := by decide +kernel
theorem dX9_asKnown_36 : decode cX9_asKnown 36 = .ok (.aload_n 0, 1) := by decide +kernel
theorem dX9_asKnown_37 : decode cX9_asKnown 37 = .ok (.getfield 15, 3) := by decide +kernel
theorem dX9_asKnown_40 : decode cX9_asKnown 40 = .ok (.iload 5, 2) := by decide +kernel
theorem dX9_asKnown_42 : decode cX9_asKnown 42 = .ok (.iaload, 1) := by decide +kernel
theorem dX9_asKnown_43 : decode cX9_asKnown 43 = .ok (.istore 5, 2) := by decide +kernel
theorem dX9_asKnown_45 : decode cX9_asKnown 45 = .ok (.iinc 6 1, 3) := by decide +kernel
theorem dX9_asKnown_48 : decode cX9_asKnown 48 = .ok (.goto (-27), 3) := by decide +kernel
theorem dX9_asKnown_51 : decode cX9_asKnown 51 = .ok (.iload 5, 2) := by decide +kernel
theorem dX9_asKnown_53 : decode cX9_asKnown 53 = .ok (.ifCond .ne 7, 3) := by decide +kernel
theorem dX9_asKnown_56 : decode cX9_asKnown 56 = .ok (.iconst (-1), 1) := by decide +kernel
theorem dX9_asKnown_57 : decode cX9_asKnown 57 = .ok (.goto 10, 3) := by decide +kernel
theorem dX9_asKnown_60 : decode cX9_asKnown 60 = .ok (.aload_n 0, 1) := by decide +kernel
theorem dX9_asKnown_61 : decode cX9_asKnown 61 = .ok (.getfield 18, 3) := by decide +kernel
theorem dX9_asKnown_64 : decode cX9_asKnown 64 = .ok (.iload 5, 2) := by decide +kernel
theorem dX9_asKnown_66 : decode cX9_asKnown 66 = .ok (.iaload, 1) := by decide +kernel
theorem dX9_asKnown_67 : decode cX9_asKnown 67 = .ok (.ireturn, 1) := by decide +kernel
abbrev M_X9_asKnown : MI := (RX9, cX9_asKnown, 7, (some .int), ({ frames := 0, cells := 0, slots := 0, locals := 0 } : Room), 0, 0, false)
def f_X9_asKnown_b51 (h : AH) (N : Nat) (x0 : Nat) (x5 : Int32) : Option Int32 := (if x5 = 0 then some (-1) else (xgr h x0 10 2).bind fun v8 => (xia h v8 x5).bind fun v9 => some v9)
def f_X9_asKnown_b21_body (h : AH) (N : Nat) (K21 : Nat → Int32 → Int32 → Int32 → Option Int32) (x0 : Nat) (x4 : Int32) (x5 : Int32) (x6 : Int32) : Option Int32 := (if 700 ≤ x6 then f_X9_asKnown_b51 h N x0 x5 else (if x5 ≤ x4 then f_X9_asKnown_b51 h N x0 x5 else (xgr h x0 10 1).bind fun v5 => (xia h v5 x5).bind fun v6 => K21 x0 x4 v6 (x6 + 1)))
def f_X9_asKnown_b21 (h : AH) (N : Nat) : Nat → Nat → Int32 → Int32 → Int32 → Option Int32
  | 0, _, _, _, _ => none
  | n + 1, x0, x4, x5, x6 => f_X9_asKnown_b21_body h N  (f_X9_asKnown_b21 h N  n) x0 x4 x5 x6
def f_X9_asKnown (h : AH) (N : Nat) (p0 : Nat) (p1 : Int32) (p2 : Int32) (p3 : Int32) (p4 : Int32) : Option Int32 := if kd h p0 = 10 + 1 then (xgr h p0 10 0).bind fun v1 => (xia h v1 ((((p1 * 16) + p2) * 12) + p3)).bind fun v2 => f_X9_asKnown_b21 h N N p0 p4 v2 0 else none
theorem g_X9_asKnown {h : AH} {N : Nat} {p0 : Nat} {p1 : Int32} {p2 : Int32} {p3 : Int32} {p4 : Int32} {x : Int32} (e : f_X9_asKnown h N p0 p1 p2 p3 p4 = some x) : kd h p0 = 10 + 1 := by
  unfold f_X9_asKnown at e
  by_cases hk : kd h p0 = 10 + 1
  · exact hk
  · rw [if_neg hk] at e
    cases e
theorem km_X9_asKnown : KM yX9_asKnown M_X9_asKnown 4 := ⟨in_tb 362 (by decide +kernel) rfl, in_tb 5 (by decide +kernel) rfl, by decide +kernel, rfl, rfl⟩
theorem hm_X9_asKnown : M_X9_asKnown.2.2.2.2.2.1 = 0 ∧ M_X9_asKnown.2.2.2.2.2.2.1 = 0 := ⟨rfl, rfl⟩
section
variable {l : Launch} {g : GG}
set_option maxRecDepth 100000 in
set_option maxHeartbeats 4000000 in
theorem t_X9_asKnown_b51 (h : AH) (N : Nat) (x0 : Nat) (x5 : Int32) : AO l g M_X9_asKnown false h 51 [(0, .ref x0), (5, .int x5)] [] h 0 0 (rPi h) (f_X9_asKnown_b51 h N  x0 x5) := by
  unfold f_X9_asKnown_b51
  refine a_iload dX9_asKnown_51 1 rfl ?_
  refine a_if_ne 60 dX9_asKnown_53 (by decide) (fun c7 => ?_) (fun c7 => ?_)
  · refine a_iconst (v := (-1)) dX9_asKnown_56 (by decide) ?_
    refine a_goto 67 dX9_asKnown_57 (by decide) ?_
    exact a_iret dX9_asKnown_67 rfl rfl (by decide) (by decide)
  · refine a_aload_n dX9_asKnown_60 rfl 0 rfl ?_
    refine a_getr kc10 2 dX9_asKnown_61 (by decide) rfl w_fieldLink_RainCover_Tellings_18 (fun v8 => ?_)
    refine a_iload dX9_asKnown_64 1 rfl ?_
    refine a_iald dX9_asKnown_66 (fun v9 => ?_)
    exact a_iret dX9_asKnown_67 rfl rfl (by decide) (by decide)
set_option maxRecDepth 100000 in
set_option maxHeartbeats 4000000 in
theorem t_X9_asKnown_b21_body (h : AH) (N : Nat) (K21 : Nat → Int32 → Int32 → Int32 → Option Int32) (hK21 : ∀ (z0 : Nat) (z1 : Int32) (z2 : Int32) (z3 : Int32), AO l g M_X9_asKnown false h 21 [(0, .ref z0), (4, .int z1), (5, .int z2), (6, .int z3)] [] h 0 0 (rPi h) (K21 z0 z1 z2 z3)) (x0 : Nat) (x4 : Int32) (x5 : Int32) (x6 : Int32) : AO l g M_X9_asKnown false h 21 [(0, .ref x0), (4, .int x4), (5, .int x5), (6, .int x6)] [] h 0 0 (rPi h) (f_X9_asKnown_b21_body h N K21 x0 x4 x5 x6) := by
  unfold f_X9_asKnown_b21_body
  refine a_iload dX9_asKnown_21 3 rfl ?_
  refine a_sipush (v := 700) dX9_asKnown_23 (by decide) ?_
  refine a_icmp_ge 51 dX9_asKnown_26 (by decide) (fun c3 => ?_) (fun c3 => ?_)
  · refine a_pick (lc2 := [(0, .ref x0), (5, .int x5)]) [0, 2] rfl ?_
    exact t_X9_asKnown_b51 h N x0 x5
  · refine a_iload dX9_asKnown_29 2 rfl ?_
    refine a_iload dX9_asKnown_31 1 rfl ?_
    refine a_icmp_le 51 dX9_asKnown_33 (by decide) (fun c4 => ?_) (fun c4 => ?_)
    · refine a_pick (lc2 := [(0, .ref x0), (5, .int x5)]) [0, 2] rfl ?_
      exact t_X9_asKnown_b51 h N x0 x5
    · refine a_aload_n dX9_asKnown_36 rfl 0 rfl ?_
      refine a_getr kc10 1 dX9_asKnown_37 (by decide) rfl w_fieldLink_RainCover_Tellings_15 (fun v5 => ?_)
      refine a_iload dX9_asKnown_40 2 rfl ?_
      refine a_iald dX9_asKnown_42 (fun v6 => ?_)
      refine a_istore (lc2 := [(5, .int v6), (0, .ref x0), (4, .int x4), (6, .int x6)]) dX9_asKnown_43 (by decide) rfl ?_
      refine a_iinc (q := 3) (v := (x6 + 1)) (lc2 := [(6, .int (x6 + 1)), (5, .int v6), (0, .ref x0), (4, .int x4)]) dX9_asKnown_45 rfl rfl (by decide) rfl ?_
      refine a_goto 21 dX9_asKnown_48 (by decide) ?_
      refine a_pick (lc2 := [(0, .ref x0), (4, .int x4), (5, .int v6), (6, .int (x6 + 1))]) [2, 3, 1, 0] rfl ?_
      exact hK21 x0 x4 v6 (x6 + 1)
set_option maxRecDepth 100000 in
set_option maxHeartbeats 4000000 in
theorem t_X9_asKnown_b21 (h : AH) (N : Nat) : ∀ (n : Nat) (x0 : Nat) (x4 : Int32) (x5 : Int32) (x6 : Int32) , AO l g M_X9_asKnown false h 21 [(0, .ref x0), (4, .int x4), (5, .int x5), (6, .int x6)] [] h 0 0 (rPi h) (f_X9_asKnown_b21 h N  n x0 x4 x5 x6) := by
  intro n
  induction n with
  | zero => intro x0 x4 x5 x6; exact a_eq rfl a_none
  | succ n ih => intro x0 x4 x5 x6; exact a_eq rfl (t_X9_asKnown_b21_body h N  (f_X9_asKnown_b21 h N  n) ih x0 x4 x5 x6)
end
set_option maxRecDepth 100000 in
set_option maxHeartbeats 4000000 in
theorem c_X9_asKnown (l : Launch) (g : GG) (h : AH) (N : Nat) (p0 : Nat) (p1 : Int32) (p2 : Int32) (p3 : Int32) (p4 : Int32) : CN l g yX9_asKnown M_X9_asKnown false [.ref p0, .int p1, .int p2, .int p3, .int p4] h ((rPi h)) (f_X9_asKnown h N p0 p1 p2 p3 p4) := by
  refine CN.of (by decide) rfl (fun hh => by first | rfl | cases hh) (Nat.le_of_ble_eq_true rfl) ?_
  unfold f_X9_asKnown
  refine a_gd (fun hkd => ?_)
  refine a_aload_n dX9_asKnown_0 rfl 0 rfl ?_
  refine a_getr kc10 0 dX9_asKnown_1 (by decide) rfl w_fieldLink_RainCover_Tellings_9 (fun v1 => ?_)
  refine a_iload_n dX9_asKnown_4 rfl 1 rfl ?_
  refine a_bipush (v := 16) dX9_asKnown_5 (by decide) ?_
  refine a_imul dX9_asKnown_7 ?_
  refine a_iload_n dX9_asKnown_8 rfl 2 rfl ?_
  refine a_iadd dX9_asKnown_9 ?_
  refine a_bipush (v := 12) dX9_asKnown_10 (by decide) ?_
  refine a_imul dX9_asKnown_12 ?_
  refine a_iload_n dX9_asKnown_13 rfl 3 rfl ?_
  refine a_iadd dX9_asKnown_14 ?_
  refine a_iald dX9_asKnown_15 (fun v2 => ?_)
  refine a_istore (lc2 := [(5, .int v2), (0, .ref p0), (1, .int p1), (2, .int p2), (3, .int p3), (4, .int p4)]) dX9_asKnown_16 (by decide) rfl ?_
  refine a_iconst (v := 0) dX9_asKnown_18 (by decide) ?_
  refine a_istore (lc2 := [(6, .int 0), (5, .int v2), (0, .ref p0), (1, .int p1), (2, .int p2), (3, .int p3), (4, .int p4)]) dX9_asKnown_19 (by decide) rfl ?_
  refine a_pick (lc2 := [(0, .ref p0), (4, .int p4), (5, .int v2), (6, .int 0)]) [2, 6, 1, 0] rfl ?_
  exact t_X9_asKnown_b21 h N N p0 p4 v2 0
