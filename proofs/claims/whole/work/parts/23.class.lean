theorem dJ0_coder_7d493_0 : decode cJ0_coder_7d493 0 = .ok (.getstatic 38, 3) := by decide +kernel
theorem dJ0_coder_7d493_3 : decode cJ0_coder_7d493 3 = .ok (.ifCond .eq 10, 3) := by decide +kernel
theorem dJ0_coder_7d493_6 : decode cJ0_coder_7d493 6 = .ok (.aload_n 0, 1) := by decide +kernel
theorem dJ0_coder_7d493_7 : decode cJ0_coder_7d493 7 = .ok (.getfield 15, 3) := by decide +kernel
theorem dJ0_coder_7d493_10 : decode cJ0_coder_7d493 10 = .ok (.goto 4, 3) := by decide +kernel
theorem dJ0_coder_7d493_13 : decode cJ0_coder_7d493 13 = .ok (.iconst 1, 1) := by decide +kernel
theorem dJ0_coder_7d493_14 : decode cJ0_coder_7d493 14 = .ok (.ireturn, 1) := by decide +kernel
abbrev M_J0_coder_7d493 : MI := (RJ0, cJ0_coder_7d493, 1, (some .byte), ({ frames := 0, cells := 0, slots := 0, locals := 0 } : Room), 0, 0, false)
def f_J0_coder_7d493 (h : AH) (p0 : Nat) : Option Int32 := if kd h p0 = 40 then (if (1 : Int32) = 0 then (if narrow .byte (.int 1) = .int 1 then some 1 else none) else (xsc h p0).bind fun v3 => (if narrow .byte (.int v3) = .int v3 then some v3 else none)) else none
theorem g_J0_coder_7d493 {h : AH} {p0 : Nat} {x : Int32} (e : f_J0_coder_7d493 h p0 = some x) : kd h p0 = 40 := by
  unfold f_J0_coder_7d493 at e
  by_cases hk : kd h p0 = 40
  · exact hk
  · rw [if_neg hk] at e
    cases e
theorem km_J0_coder_7d493 : KM yJ0_coder_7d493 M_J0_coder_7d493 0 := ⟨in_tb 518 (by decide +kernel) rfl, in_tb 18 (by decide +kernel) rfl, by decide +kernel, rfl, rfl⟩
theorem hm_J0_coder_7d493 : M_J0_coder_7d493.2.2.2.2.2.1 = 0 ∧ M_J0_coder_7d493.2.2.2.2.2.2.1 = 0 := ⟨rfl, rfl⟩
section
variable {l : Launch} {g : GG}
end
set_option maxRecDepth 100000 in
set_option maxHeartbeats 4000000 in
theorem c_J0_coder_7d493 (l : Launch) (g : GG) (h : AH) (p0 : Nat) : CN l g yJ0_coder_7d493 M_J0_coder_7d493 false [.ref p0] h ((rPi h)) (f_J0_coder_7d493 h p0) := by
  refine CN.of (by decide) rfl (fun hh => by first | rfl | cases hh) (Nat.le_of_ble_eq_true rfl) ?_
  unfold f_J0_coder_7d493
  refine a_gd (fun hkd => ?_)
  refine a_gs4 dJ0_coder_7d493_0 w_fieldLink_java_lang_String_38 ?_
  refine a_if_eq 13 dJ0_coder_7d493_3 (by decide) (fun c1 => ?_) (fun c1 => ?_)
  · refine a_iconst (v := 1) dJ0_coder_7d493_13 (by decide) ?_
    exact a_gd (fun c2 => a_tret dJ0_coder_7d493_14 rfl c2 rfl (by decide) (by decide))
  · refine a_aload_n dJ0_coder_7d493_6 rfl 0 rfl ?_
    refine a_strc dJ0_coder_7d493_7 w_fieldLink_java_lang_String_15 (fun v3 => ?_)
    refine a_goto 14 dJ0_coder_7d493_10 (by decide) ?_
    exact a_gd (fun c4 => a_tret dJ0_coder_7d493_14 rfl c4 rfl (by decide) (by decide))
theorem dJ0_length_8abf5_0 : decode cJ0_length_8abf5 0 = .ok (.aload_n 0, 1) := by decide +kernel
theorem dJ0_length_8abf5_1 : decode cJ0_length_8abf5 1 = .ok (.getfield 9, 3) := by decide +kernel
theorem dJ0_length_8abf5_4 : decode cJ0_length_8abf5 4 = .ok (.arraylength, 1) := by decide +kernel
theorem dJ0_length_8abf5_5 : decode cJ0_length_8abf5 5 = .ok (.aload_n 0, 1) := by decide +kernel
theorem dJ0_length_8abf5_6 : decode cJ0_length_8abf5 6 = .ok (.invokevirtual 335, 3) := by decide +kernel
theorem dJ0_length_8abf5_9 : decode cJ0_length_8abf5 9 = .ok (.ishr, 1) := by decide +kernel
theorem dJ0_length_8abf5_10 : decode cJ0_length_8abf5 10 = .ok (.ireturn, 1) := by decide +kernel
abbrev M_J0_length_8abf5 : MI := (RJ0, cJ0_length_8abf5, 1, (some .int), ({ frames := 1, cells := 0, slots := 0, locals := 20 } : Room), 0, 0, false)
def f_J0_length_8abf5 (h : AH) (p0 : Nat) : Option Int32 := if kd h p0 = 40 then (xsv h p0).bind fun v1 => (xal h v1).bind fun v2 => (f_J0_coder_7d493 h p0).bind fun v3 => some (v2 >>> (v3 &&& 31)) else none
theorem g_J0_length_8abf5 {h : AH} {p0 : Nat} {x : Int32} (e : f_J0_length_8abf5 h p0 = some x) : kd h p0 = 40 := by
  unfold f_J0_length_8abf5 at e
  by_cases hk : kd h p0 = 40
  · exact hk
  · rw [if_neg hk] at e
    cases e
theorem km_J0_length_8abf5 : KM yJ0_length_8abf5 M_J0_length_8abf5 0 := ⟨in_tb 514 (by decide +kernel) rfl, in_tb 18 (by decide +kernel) rfl, by decide +kernel, rfl, rfl⟩
theorem hm_J0_length_8abf5 : M_J0_length_8abf5.2.2.2.2.2.1 = 0 ∧ M_J0_length_8abf5.2.2.2.2.2.2.1 = 0 := ⟨rfl, rfl⟩
section
variable {l : Launch} {g : GG}
end
set_option maxRecDepth 100000 in
set_option maxHeartbeats 4000000 in
theorem c_J0_length_8abf5 (l : Launch) (g : GG) (h : AH) (p0 : Nat) : CN l g yJ0_length_8abf5 M_J0_length_8abf5 false [.ref p0] h ((rPi h)) (f_J0_length_8abf5 h p0) := by
  refine CN.of (by decide) rfl (fun hh => by first | rfl | cases hh) (Nat.le_of_ble_eq_true rfl) ?_
  unfold f_J0_length_8abf5
  refine a_gd (fun hkd => ?_)
  refine a_aload_n dJ0_length_8abf5_0 rfl 0 rfl ?_
  refine a_strv dJ0_length_8abf5_1 w_fieldLink_java_lang_String_9 (fun v1 => ?_)
  refine a_alen dJ0_length_8abf5_4 (fun v2 => ?_)
  refine a_aload_n dJ0_length_8abf5_5 rfl 0 rfl ?_
  refine a_cVS_Pi (r := p0) (as := []) (st := [.int v2]) dJ0_length_8abf5_6 (c_J0_coder_7d493 l g h p0) rfl km_J0_coder_7d493 (hm_J0_coder_7d493) rfl (fun _ ee => g_J0_coder_7d493 ee) w_methodLink_java_lang_String_335 w_instanceMethod_java_lang_String_coder___B w_selects_java_lang_String_java_lang_String_coder___B_java_lang_String_coder___B ⟨⟨by decide, by decide⟩, ⟨by decide, by decide⟩⟩ (Nat.le_of_ble_eq_true rfl) (fun v3 => ?_)
  refine a_ishr dJ0_length_8abf5_9 ?_
  exact a_iret dJ0_length_8abf5_10 rfl rfl (by decide) (by decide)
theorem dJ0_isLatin1_aae02_0 : decode cJ0_isLatin1_aae02 0 = .ok (.getstatic 38, 3) := by decide +kernel
theorem dJ0_isLatin1_aae02_3 : decode cJ0_isLatin1_aae02 3 = .ok (.ifCond .eq 14, 3) := by decide +kernel
theorem dJ0_isLatin1_aae02_6 : decode cJ0_isLatin1_aae02 6 = .ok (.aload_n 0, 1) := by decide +kernel
theorem dJ0_isLatin1_aae02_7 : decode cJ0_isLatin1_aae02 7 = .ok (.getfield 15, 3) := by decide +kernel
theorem dJ0_isLatin1_aae02_10 : decode cJ0_isLatin1_aae02 10 = .ok (.ifCond .ne 7, 3) := by decide +kernel
theorem dJ0_isLatin1_aae02_13 : decode cJ0_isLatin1_aae02 13 = .ok (.iconst 1, 1) := by decide +kernel
theorem dJ0_isLatin1_aae02_14 : decode cJ0_isLatin1_aae02 14 = .ok (.goto 4, 3) := by decide +kernel
theorem dJ0_isLatin1_aae02_17 : decode cJ0_isLatin1_aae02 17 = .ok (.iconst 0, 1) := by decide +kernel
theorem dJ0_isLatin1_aae02_18 : decode cJ0_isLatin1_aae02 18 = .ok (.ireturn, 1) := by decide +kernel
abbrev M_J0_isLatin1_aae02 : MI := (RJ0, cJ0_isLatin1_aae02, 1, (some .boolean), ({ frames := 0, cells := 0, slots := 0, locals := 0 } : Room), 0, 0, false)
def f_J0_isLatin1_aae02 (h : AH) (p0 : Nat) : Option Int32 := if kd h p0 = 40 then (if (1 : Int32) = 0 then some 0 else (xsc h p0).bind fun v2 => (if v2 = 0 then some 1 else some 0)) else none
theorem g_J0_isLatin1_aae02 {h : AH} {p0 : Nat} {x : Int32} (e : f_J0_isLatin1_aae02 h p0 = some x) : kd h p0 = 40 := by
  unfold f_J0_isLatin1_aae02 at e
  by_cases hk : kd h p0 = 40
  · exact hk
  · rw [if_neg hk] at e
    cases e
theorem km_J0_isLatin1_aae02 : KM yJ0_isLatin1_aae02 M_J0_isLatin1_aae02 0 := ⟨in_tb 528 (by decide +kernel) rfl, in_tb 18 (by decide +kernel) rfl, by decide +kernel, rfl, rfl⟩
theorem hm_J0_isLatin1_aae02 : M_J0_isLatin1_aae02.2.2.2.2.2.1 = 0 ∧ M_J0_isLatin1_aae02.2.2.2.2.2.2.1 = 0 := ⟨rfl, rfl⟩
section
variable {l : Launch} {g : GG}
end
set_option maxRecDepth 100000 in
set_option maxHeartbeats 4000000 in
theorem c_J0_isLatin1_aae02 (l : Launch) (g : GG) (h : AH) (p0 : Nat) : CN l g yJ0_isLatin1_aae02 M_J0_isLatin1_aae02 false [.ref p0] h ((rPi h)) (f_J0_isLatin1_aae02 h p0) := by
  refine CN.of (by decide) rfl (fun hh => by first | rfl | cases hh) (Nat.le_of_ble_eq_true rfl) ?_
  unfold f_J0_isLatin1_aae02
  refine a_gd (fun hkd => ?_)
  refine a_gs4 dJ0_isLatin1_aae02_0 w_fieldLink_java_lang_String_38 ?_
  refine a_if_eq 17 dJ0_isLatin1_aae02_3 (by decide) (fun c1 => ?_) (fun c1 => ?_)
  · refine a_iconst (v := 0) dJ0_isLatin1_aae02_17 (by decide) ?_
    exact a_zret dJ0_isLatin1_aae02_18 rfl (Or.inl rfl) rfl (by decide) (by decide)
  · refine a_aload_n dJ0_isLatin1_aae02_6 rfl 0 rfl ?_
    refine a_strc dJ0_isLatin1_aae02_7 w_fieldLink_java_lang_String_15 (fun v2 => ?_)
    refine a_if_ne 17 dJ0_isLatin1_aae02_10 (by decide) (fun c3 => ?_) (fun c3 => ?_)
    · refine a_iconst (v := 1) dJ0_isLatin1_aae02_13 (by decide) ?_
      refine a_goto 18 dJ0_isLatin1_aae02_14 (by decide) ?_
      exact a_zret dJ0_isLatin1_aae02_18 rfl (Or.inr rfl) rfl (by decide) (by decide)
    · refine a_iconst (v := 0) dJ0_isLatin1_aae02_17 (by decide) ?_
      exact a_zret dJ0_isLatin1_aae02_18 rfl (Or.inl rfl) rfl (by decide) (by decide)
theorem dJ0_checkIndex_df160_0 : decode cJ0_checkIndex_df160 0 = .ok (.iload_n 0, 1) := by decide +kernel
theorem dJ0_checkIndex_df160_1 : decode cJ0_checkIndex_df160 1 = .ok (.iload_n 1, 1) := by decide +kernel
theorem dJ0_checkIndex_df160_2 : decode cJ0_checkIndex_df160 2 = .ok (.getstatic 1053, 3) := by decide +kernel
theorem dJ0_checkIndex_df160_5 : decode cJ0_checkIndex_df160 5 = .ok (.invokestatic 1059, 3) := by decide +kernel
theorem dJ0_checkIndex_df160_8 : decode cJ0_checkIndex_df160 8 = .ok (.pop, 1) := by decide +kernel
theorem dJ0_checkIndex_df160_9 : decode cJ0_checkIndex_df160 9 = .ok (.return_, 1) := by decide +kernel
abbrev M_J0_checkIndex_df160 : MI := (RJ0, cJ0_checkIndex_df160, 2, none, ({ frames := 1, cells := 0, slots := 0, locals := 22 } : Room), 0, 0, false)
def f_J0_checkIndex_df160 (h : AH) (p0 : Int32) (p1 : Int32) : Option Unit := (f_J3_checkIndex_8e157 h p0 p1).bind fun v2 => some ()
theorem km_J0_checkIndex_df160 : KM yJ0_checkIndex_df160 M_J0_checkIndex_df160 2 := ⟨in_tb 534 (by decide +kernel) rfl, in_tb 18 (by decide +kernel) rfl, by decide +kernel, rfl, rfl⟩
theorem hm_J0_checkIndex_df160 : M_J0_checkIndex_df160.2.2.2.2.2.1 = 0 ∧ M_J0_checkIndex_df160.2.2.2.2.2.2.1 = 0 := ⟨rfl, rfl⟩
section
variable {l : Launch} {g : GG}
end
set_option maxRecDepth 100000 in
set_option maxHeartbeats 4000000 in
theorem c_J0_checkIndex_df160 (l : Launch) (g : GG) (h : AH) (p0 : Int32) (p1 : Int32) : CN l g yJ0_checkIndex_df160 M_J0_checkIndex_df160 false [.int p0, .int p1] h ((rPv h)) (f_J0_checkIndex_df160 h p0 p1) := by
  refine CN.of (by decide) rfl (fun hh => by first | rfl | cases hh) (Nat.le_of_ble_eq_true rfl) ?_
  unfold f_J0_checkIndex_df160
  refine a_iload_n dJ0_checkIndex_df160_0 rfl 0 rfl ?_
  refine a_iload_n dJ0_checkIndex_df160_1 rfl 1 rfl ?_
  refine a_gs5 dJ0_checkIndex_df160_2 w_fieldLink_java_lang_String_1053 (fun w1 => ?_)
  refine a_cS_Pi (as := [.int p0, .int p1, va_rf w1]) (st := []) dJ0_checkIndex_df160_5 (c_J3_checkIndex_8e157 l g h p0 p1 w1) rfl km_J3_checkIndex_8e157 (hm_J3_checkIndex_8e157) w_methodLink_java_lang_String_1059 w_static_jdk_internal_util_Preconditions_checkIndex__IILjava_util_function_BiFunction__I ⟨⟨by decide, by decide⟩, ⟨by decide, by decide⟩⟩ (Nat.le_of_ble_eq_true rfl) (fun v2 => ?_)
  refine a_pop dJ0_checkIndex_df160_8 rfl ?_
  exact a_vret dJ0_checkIndex_df160_9 rfl rfl (by decide) (by decide)
theorem dJ1_charAt_3b067_0 : decode cJ1_charAt_3b067 0 = .ok (.iload_n 1, 1) := by decide +kernel
theorem dJ1_charAt_3b067_1 : decode cJ1_charAt_3b067 1 = .ok (.aload_n 0, 1) := by decide +kernel
theorem dJ1_charAt_3b067_2 : decode cJ1_charAt_3b067 2 = .ok (.arraylength, 1) := by decide +kernel
theorem dJ1_charAt_3b067_3 : decode cJ1_charAt_3b067 3 = .ok (.invokestatic 9, 3) := by decide +kernel
theorem dJ1_charAt_3b067_6 : decode cJ1_charAt_3b067 6 = .ok (.aload_n 0, 1) := by decide +kernel
theorem dJ1_charAt_3b067_7 : decode cJ1_charAt_3b067 7 = .ok (.iload_n 1, 1) := by decide +kernel
theorem dJ1_charAt_3b067_8 : decode cJ1_charAt_3b067 8 = .ok (.baload, 1) := by decide +kernel
theorem dJ1_charAt_3b067_9 : decode cJ1_charAt_3b067 9 = .ok (.sipush 255, 3) := by decide +kernel
theorem dJ1_charAt_3b067_12 : decode cJ1_charAt_3b067 12 = .ok (.iand, 1) := by decide +kernel
theorem dJ1_charAt_3b067_13 : decode cJ1_charAt_3b067 13 = .ok (.i2c, 1) := by decide +kernel
theorem dJ1_charAt_3b067_14 : decode cJ1_charAt_3b067 14 = .ok (.ireturn, 1) := by decide +kernel
abbrev M_J1_charAt_3b067 : MI := (RJ1, cJ1_charAt_3b067, 2, (some .char), ({ frames := 2, cells := 0, slots := 0, locals := 43 } : Room), 0, 0, false)
def f_J1_charAt_3b067 (h : AH) (p0 : Nat) (p1 : Int32) : Option Int32 := (xal h p0).bind fun v1 => (f_J0_checkIndex_df160 h p1 v1).bind fun v2 => (xba h p0 p1).bind fun v3 => (if narrow .char (.int ((((v3 &&& 255) : Int32).toUInt32 % 65536).toInt32)) = .int ((((v3 &&& 255) : Int32).toUInt32 % 65536).toInt32) then some ((((v3 &&& 255) : Int32).toUInt32 % 65536).toInt32) else none)
theorem km_J1_charAt_3b067 : KM yJ1_charAt_3b067 M_J1_charAt_3b067 2 := ⟨in_tb 531 (by decide +kernel) rfl, in_tb 19 (by decide +kernel) rfl, by decide +kernel, rfl, rfl⟩
theorem hm_J1_charAt_3b067 : M_J1_charAt_3b067.2.2.2.2.2.1 = 0 ∧ M_J1_charAt_3b067.2.2.2.2.2.2.1 = 0 := ⟨rfl, rfl⟩
section
variable {l : Launch} {g : GG}
end
set_option maxRecDepth 100000 in
set_option maxHeartbeats 4000000 in
theorem c_J1_charAt_3b067 (l : Launch) (g : GG) (h : AH) (p0 : Nat) (p1 : Int32) : CN l g yJ1_charAt_3b067 M_J1_charAt_3b067 false [.ref p0, .int p1] h ((rPi h)) (f_J1_charAt_3b067 h p0 p1) := by
  refine CN.of (by decide) rfl (fun hh => by first | rfl | cases hh) (Nat.le_of_ble_eq_true rfl) ?_
  unfold f_J1_charAt_3b067
  refine a_iload_n dJ1_charAt_3b067_0 rfl 1 rfl ?_
  refine a_aload_n dJ1_charAt_3b067_1 rfl 0 rfl ?_
  refine a_alen dJ1_charAt_3b067_2 (fun v1 => ?_)
  refine a_cS_Pv (as := [.int p1, .int v1]) (st := []) dJ1_charAt_3b067_3 (c_J0_checkIndex_df160 l g h p1 v1) rfl km_J0_checkIndex_df160 (hm_J0_checkIndex_df160) w_methodLink_java_lang_StringLatin1_9 w_static_java_lang_String_checkIndex__II_V ⟨⟨by decide, by decide⟩, ⟨by decide, by decide⟩⟩ (Nat.le_of_ble_eq_true rfl) (fun v2 => ?_)
  refine a_aload_n dJ1_charAt_3b067_6 rfl 0 rfl ?_
  refine a_iload_n dJ1_charAt_3b067_7 rfl 1 rfl ?_
  refine a_bald dJ1_charAt_3b067_8 (fun v3 => ?_)
  refine a_sipush (v := 255) dJ1_charAt_3b067_9 (by decide) ?_
  refine a_iand dJ1_charAt_3b067_12 ?_
  refine a_i2c dJ1_charAt_3b067_13 ?_
  exact a_gd (fun c4 => a_tret dJ1_charAt_3b067_14 rfl c4 rfl (by decide) (by decide))
theorem dJ0_charAt_5068e_0 : decode cJ0_charAt_5068e 0 = .ok (.aload_n 0, 1) := by decide +kernel
theorem dJ0_charAt_5068e_1 : decode cJ0_charAt_5068e 1 = .ok (.invokevirtual 492, 3) := by decide +kernel
theorem dJ0_charAt_5068e_4 : decode cJ0_charAt_5068e 4 = .ok (.ifCond .eq 12, 3) := by decide +kernel
theorem dJ0_charAt_5068e_7 : decode cJ0_charAt_5068e 7 = .ok (.aload_n 0, 1) := by decide +kernel
theorem dJ0_charAt_5068e_8 : decode cJ0_charAt_5068e 8 = .ok (.getfield 9, 3) := by decide +kernel
theorem dJ0_charAt_5068e_11 : decode cJ0_charAt_5068e 11 = .ok (.iload_n 1, 1) := by decide +kernel
theorem dJ0_charAt_5068e_12 : decode cJ0_charAt_5068e 12 = .ok (.invokestatic 495, 3) := by decide +kernel
theorem dJ0_charAt_5068e_15 : decode cJ0_charAt_5068e 15 = .ok (.ireturn, 1) := by decide +kernel
theorem dJ0_charAt_5068e_16 : decode cJ0_charAt_5068e 16 = .ok (.aload_n 0, 1) := by decide +kernel
theorem dJ0_charAt_5068e_17 : decode cJ0_charAt_5068e 17 = .ok (.getfield 9, 3) := by decide +kernel
theorem dJ0_charAt_5068e_20 : decode cJ0_charAt_5068e 20 = .ok (.iload_n 1, 1) := by decide +kernel
theorem dJ0_charAt_5068e_21 : decode cJ0_charAt_5068e 21 = .ok (.invokestatic 498, 3) := by decide +kernel
abbrev M_J0_charAt_5068e : MI := (RJ0, cJ0_charAt_5068e, 2, (some .char), ({ frames := 3, cells := 0, slots := 0, locals := 64 } : Room), 0, 0, false)
def f_J0_charAt_5068e (h : AH) (p0 : Nat) (p1 : Int32) : Option Int32 := if kd h p0 = 40 then (f_J0_isLatin1_aae02 h p0).bind fun v1 => (if v1 = 0 then (xsv h p0).bind fun v3 => none else (xsv h p0).bind fun v4 => (f_J1_charAt_3b067 h v4 p1).bind fun v5 => (if narrow .char (.int v5) = .int v5 then some v5 else none)) else none
theorem g_J0_charAt_5068e {h : AH} {p0 : Nat} {p1 : Int32} {x : Int32} (e : f_J0_charAt_5068e h p0 p1 = some x) : kd h p0 = 40 := by
  unfold f_J0_charAt_5068e at e
  by_cases hk : kd h p0 = 40
  · exact hk
  · rw [if_neg hk] at e
    cases e
theorem km_J0_charAt_5068e : KM yJ0_charAt_5068e M_J0_charAt_5068e 1 := ⟨in_tb 524 (by decide +kernel) rfl, in_tb 18 (by decide +kernel) rfl, by decide +kernel, rfl, rfl⟩
theorem hm_J0_charAt_5068e : M_J0_charAt_5068e.2.2.2.2.2.1 = 0 ∧ M_J0_charAt_5068e.2.2.2.2.2.2.1 = 0 := ⟨rfl, rfl⟩
section
variable {l : Launch} {g : GG}
end
set_option maxRecDepth 100000 in
set_option maxHeartbeats 4000000 in
theorem c_J0_charAt_5068e (l : Launch) (g : GG) (h : AH) (p0 : Nat) (p1 : Int32) : CN l g yJ0_charAt_5068e M_J0_charAt_5068e false [.ref p0, .int p1] h ((rPi h)) (f_J0_charAt_5068e h p0 p1) := by
  refine CN.of (by decide) rfl (fun hh => by first | rfl | cases hh) (Nat.le_of_ble_eq_true rfl) ?_
  unfold f_J0_charAt_5068e
  refine a_gd (fun hkd => ?_)
  refine a_aload_n dJ0_charAt_5068e_0 rfl 0 rfl ?_
  refine a_cVS_Pi (r := p0) (as := []) (st := []) dJ0_charAt_5068e_1 (c_J0_isLatin1_aae02 l g h p0) rfl km_J0_isLatin1_aae02 (hm_J0_isLatin1_aae02) rfl (fun _ ee => g_J0_isLatin1_aae02 ee) w_methodLink_java_lang_String_492 w_instanceMethod_java_lang_String_isLatin1___Z w_selects_java_lang_String_java_lang_String_isLatin1___Z_java_lang_String_isLatin1___Z ⟨⟨by decide, by decide⟩, ⟨by decide, by decide⟩⟩ (Nat.le_of_ble_eq_true rfl) (fun v1 => ?_)
  refine a_if_eq 16 dJ0_charAt_5068e_4 (by decide) (fun c2 => ?_) (fun c2 => ?_)
  · refine a_aload_n dJ0_charAt_5068e_16 rfl 0 rfl ?_
    refine a_strv dJ0_charAt_5068e_17 w_fieldLink_java_lang_String_9 (fun v3 => ?_)
    refine a_iload_n dJ0_charAt_5068e_20 rfl 1 rfl ?_
    exact a_none
  · refine a_aload_n dJ0_charAt_5068e_7 rfl 0 rfl ?_
    refine a_strv dJ0_charAt_5068e_8 w_fieldLink_java_lang_String_9 (fun v4 => ?_)
    refine a_iload_n dJ0_charAt_5068e_11 rfl 1 rfl ?_
    refine a_cS_Pi (as := [.ref v4, .int p1]) (st := []) dJ0_charAt_5068e_12 (c_J1_charAt_3b067 l g h v4 p1) rfl km_J1_charAt_3b067 (hm_J1_charAt_3b067) w_methodLink_java_lang_String_495 w_static_java_lang_StringLatin1_charAt___BI_C ⟨⟨by decide, by decide⟩, ⟨by decide, by decide⟩⟩ (Nat.le_of_ble_eq_true rfl) (fun v5 => ?_)
    exact a_gd (fun c6 => a_tret dJ0_charAt_5068e_15 rfl c6 rfl (by decide) (by decide))
theorem dX8_word_0 : decode cX8_word 0 = .ok (.iconst 0, 1) := by decide +kernel
theorem dX8_word_1 : decode cX8_word 1 = .ok (.istore_n 2, 1) := by decide +kernel
theorem dX8_word_2 : decode cX8_word 2 = .ok (.iload_n 2, 1) := by decide +kernel
theorem dX8_word_3 : decode cX8_word 3 = .ok (.aload_n 1, 1) := by decide +kernel
theorem dX8_word_4 : decode cX8_word 4 = .ok (.invokevirtual 120, 3) := by decide +kernel
theorem dX8_word_7 : decode cX8_word 7 = .ok (.if_icmp .ge 46, 3) := by decide +kernel
theorem dX8_word_10 : decode cX8_word 10 = .ok (.aload_n 0, 1) := by decide +kernel
theorem dX8_word_11 : decode cX8_word 11 = .ok (.getfield 20, 3) := by decide +kernel
theorem dX8_word_14 : decode cX8_word 14 = .ok (.ifCond .ne 39, 3) := by decide +kernel
theorem dX8_word_17 : decode cX8_word 17 = .ok (.aload_n 0, 1) := by decide +kernel
theorem dX8_word_18 : decode cX8_word 18 = .ok (.invokevirtual 27, 3) := by decide +kernel
theorem dX8_word_21 : decode cX8_word 21 = .ok (.aload_n 1, 1) := by decide +kernel
theorem dX8_word_22 : decode cX8_word 22 = .ok (.iload_n 2, 1) := by decide +kernel
theorem dX8_word_23 : decode cX8_word 23 = .ok (.invokevirtual 124, 3) := by decide +kernel
theorem dX8_word_26 : decode cX8_word 26 = .ok (.if_icmp .ne 16, 3) := by decide +kernel
theorem dX8_word_29 : decode cX8_word 29 = .ok (.aload_n 0, 1) := by decide +kernel
theorem dX8_word_30 : decode cX8_word 30 = .ok (.dup, 1) := by decide +kernel
theorem dX8_word_31 : decode cX8_word 31 = .ok (.getfield 17, 3) := by decide +kernel
theorem dX8_word_34 : decode cX8_word 34 = .ok (.iconst 1, 1) := by decide +kernel
theorem dX8_word_35 : decode cX8_word 35 = .ok (.iadd, 1) := by decide +kernel
theorem dX8_word_36 : decode cX8_word 36 = .ok (.putfield 17, 3) := by decide +kernel
theorem dX8_word_39 : decode cX8_word 39 = .ok (.goto 8, 3) := by decide +kernel
theorem dX8_word_42 : decode cX8_word 42 = .ok (.aload_n 0, 1) := by decide +kernel
theorem dX8_word_43 : decode cX8_word 43 = .ok (.iconst 1, 1) := by decide +kernel
theorem dX8_word_44 : decode cX8_word 44 = .ok (.putfield 20, 3) := by decide +kernel
theorem dX8_word_47 : decode cX8_word 47 = .ok (.iinc 2 1, 3) := by decide +kernel
theorem dX8_word_50 : decode cX8_word 50 = .ok (.goto (-48), 3) := by decide +kernel
theorem dX8_word_53 : decode cX8_word 53 = .ok (.return_, 1) := by decide +kernel
abbrev M_X8_word : MI := (RX8, cX8_word, 3, none, ({ frames := 4, cells := 0, slots := 0, locals := 85 } : Room), 0, 0, false)
def f_X8_word_b47 (N : Nat) (K2 : AH → Nat → Nat → Int32 → Option AH) (h : AH) (x0 : Nat) (x1 : Nat) (x2 : Int32) : Option AH := K2 h x0 x1 (x2 + 1)
def f_X8_word_b2_body (N : Nat) (K2 : AH → Nat → Nat → Int32 → Option AH) (h : AH) (x0 : Nat) (x1 : Nat) (x2 : Int32) : Option AH := (f_J0_length_8abf5 h x1).bind fun v1 => (if v1 ≤ x2 then some h else (xgi h x0 9 3).bind fun v3 => (if v3 = 0 then (f_X8_next h x0).bind fun v5 => (f_J0_charAt_5068e h x1 x2).bind fun v6 => (if v5 = v6 then (xgi h x0 9 2).bind fun v8 => (xpi h x0 9 2 (v8 + 1)).bind fun h9 => f_X8_word_b47 N K2 h9 x0 x1 x2 else (xpz h x0 9 3 1).bind fun h10 => f_X8_word_b47 N K2 h10 x0 x1 x2) else some h))
def f_X8_word_b2 (N : Nat) : Nat → AH → Nat → Nat → Int32 → Option AH
  | 0, _, _, _, _ => none
  | n + 1, h, x0, x1, x2 => f_X8_word_b2_body N  (f_X8_word_b2 N  n) h x0 x1 x2
def f_X8_word (h0 : AH) (N : Nat) (p0 : Nat) (p1 : Nat) : Option AH := if kd h0 p0 = 9 + 1 then f_X8_word_b2 N N h0 p0 p1 0 else none
theorem g_X8_word {h0 : AH} {N : Nat} {p0 : Nat} {p1 : Nat} {x : AH} (e : f_X8_word h0 N p0 p1 = some x) : kd h0 p0 = 9 + 1 := by
  unfold f_X8_word at e
  by_cases hk : kd h0 p0 = 9 + 1
  · exact hk
  · rw [if_neg hk] at e
    cases e
theorem km_X8_word : KM yX8_word M_X8_word 1 := ⟨in_tb 510 (by decide +kernel) rfl, in_tb 6 (by decide +kernel) rfl, by decide +kernel, rfl, rfl⟩
theorem hm_X8_word : M_X8_word.2.2.2.2.2.1 = 0 ∧ M_X8_word.2.2.2.2.2.2.1 = 0 := ⟨rfl, rfl⟩
section
variable {l : Launch} {g : GG}
set_option maxRecDepth 100000 in
set_option maxHeartbeats 4000000 in
theorem t_X8_word_b47 (h0 : AH) (N : Nat) (K2 : AH → Nat → Nat → Int32 → Option AH) (hK2 : ∀ (z : AH) (z0 : Nat) (z1 : Nat) (z2 : Int32), AO l g M_X8_word false h0 2 [(0, .ref z0), (1, .ref z1), (2, .int z2)] [] z 0 0 rSv (K2 z z0 z1 z2)) (h : AH) (x0 : Nat) (x1 : Nat) (x2 : Int32) : AO l g M_X8_word false h0 47 [(0, .ref x0), (1, .ref x1), (2, .int x2)] [] h 0 0 rSv (f_X8_word_b47 N K2 h x0 x1 x2) := by
  unfold f_X8_word_b47
  refine a_iinc (q := 2) (v := (x2 + 1)) (lc2 := [(2, .int (x2 + 1)), (0, .ref x0), (1, .ref x1)]) dX8_word_47 rfl rfl (by decide) rfl ?_
  refine a_goto 2 dX8_word_50 (by decide) ?_
  refine a_pick (lc2 := [(0, .ref x0), (1, .ref x1), (2, .int (x2 + 1))]) [1, 2, 0] rfl ?_
  exact hK2 h x0 x1 (x2 + 1)
set_option maxRecDepth 100000 in
set_option maxHeartbeats 4000000 in
theorem t_X8_word_b2_body (h0 : AH) (N : Nat) (K2 : AH → Nat → Nat → Int32 → Option AH) (hK2 : ∀ (z : AH) (z0 : Nat) (z1 : Nat) (z2 : Int32), AO l g M_X8_word false h0 2 [(0, .ref z0), (1, .ref z1), (2, .int z2)] [] z 0 0 rSv (K2 z z0 z1 z2)) (h : AH) (x0 : Nat) (x1 : Nat) (x2 : Int32) : AO l g M_X8_word false h0 2 [(0, .ref x0), (1, .ref x1), (2, .int x2)] [] h 0 0 rSv (f_X8_word_b2_body N K2 h x0 x1 x2) := by
  unfold f_X8_word_b2_body
  refine a_iload_n dX8_word_2 rfl 2 rfl ?_
  refine a_aload_n dX8_word_3 rfl 1 rfl ?_
  refine a_cVS_Pi (r := x1) (as := []) (st := [.int x2]) dX8_word_4 (c_J0_length_8abf5 l g h x1) rfl km_J0_length_8abf5 (hm_J0_length_8abf5) rfl (fun _ ee => g_J0_length_8abf5 ee) w_methodLink_RainCover_Tape_120 w_instanceMethod_java_lang_String_length___I w_selects_java_lang_String_java_lang_String_length___I_java_lang_String_length___I ⟨⟨by decide, by decide⟩, ⟨by decide, by decide⟩⟩ (Nat.le_of_ble_eq_true rfl) (fun v1 => ?_)
  refine a_icmp_ge 53 dX8_word_7 (by decide) (fun c2 => ?_) (fun c2 => ?_)
  · exact a_vret dX8_word_53 rfl rfl (by decide) (by decide)
  · refine a_aload_n dX8_word_10 rfl 0 rfl ?_
    refine a_geti kc9 3 dX8_word_11 (by decide) rfl w_fieldLink_RainCover_Tape_20 (fun v3 => ?_)
    refine a_if_ne 53 dX8_word_14 (by decide) (fun c4 => ?_) (fun c4 => ?_)
    · refine a_aload_n dX8_word_17 rfl 0 rfl ?_
      refine a_cV_Pi (r := x0) (ci := 9) (as := []) (st := []) dX8_word_18 (c_X8_next l g h x0) rfl km_X8_next (hm_X8_next) rfl (by decide) rfl (fun _ ee => g_X8_next ee) w_methodLink_RainCover_Tape_27 w_instanceMethod_RainCover_Tape_next___I w_selects_RainCover_Tape_RainCover_Tape_next___I_RainCover_Tape_next___I ⟨⟨by decide, by decide⟩, ⟨by decide, by decide⟩⟩ (Nat.le_of_ble_eq_true rfl) (fun v5 => ?_)
      refine a_aload_n dX8_word_21 rfl 1 rfl ?_
      refine a_iload_n dX8_word_22 rfl 2 rfl ?_
      refine a_cVS_Pi (r := x1) (as := [.int x2]) (st := [.int v5]) dX8_word_23 (c_J0_charAt_5068e l g h x1 x2) rfl km_J0_charAt_5068e (hm_J0_charAt_5068e) rfl (fun _ ee => g_J0_charAt_5068e ee) w_methodLink_RainCover_Tape_124 w_instanceMethod_java_lang_String_charAt__I_C w_selects_java_lang_String_java_lang_String_charAt__I_C_java_lang_String_charAt__I_C ⟨⟨by decide, by decide⟩, ⟨by decide, by decide⟩⟩ (Nat.le_of_ble_eq_true rfl) (fun v6 => ?_)
      refine a_icmp_ne 42 dX8_word_26 (by decide) (fun c7 => ?_) (fun c7 => ?_)
      · refine a_aload_n dX8_word_29 rfl 0 rfl ?_
        refine a_dup dX8_word_30 rfl ?_
        refine a_geti kc9 2 dX8_word_31 (by decide) rfl w_fieldLink_RainCover_Tape_17 (fun v8 => ?_)
        refine a_iconst (v := 1) dX8_word_34 (by decide) ?_
        refine a_iadd dX8_word_35 ?_
        refine a_puti kc9 2 dX8_word_36 (by decide) rfl w_fieldLink_RainCover_Tape_17 rfl rfl (fun h9 => ?_)
        refine a_goto 47 dX8_word_39 (by decide) ?_
        exact t_X8_word_b47 h0 N K2 hK2 h9 x0 x1 x2
      · refine a_aload_n dX8_word_42 rfl 0 rfl ?_
        refine a_iconst (v := 1) dX8_word_43 (by decide) ?_
        refine a_putz kc9 3 dX8_word_44 (by decide) rfl w_fieldLink_RainCover_Tape_20 rfl rfl (fun h10 => ?_)
        exact t_X8_word_b47 h0 N K2 hK2 h10 x0 x1 x2
    · exact a_vret dX8_word_53 rfl rfl (by decide) (by decide)
set_option maxRecDepth 100000 in
set_option maxHeartbeats 4000000 in
theorem t_X8_word_b2 (h0 : AH) (N : Nat) : ∀ (n : Nat) (h : AH) (x0 : Nat) (x1 : Nat) (x2 : Int32) , AO l g M_X8_word false h0 2 [(0, .ref x0), (1, .ref x1), (2, .int x2)] [] h 0 0 rSv (f_X8_word_b2 N  n h x0 x1 x2) := by
  intro n
  induction n with
  | zero => intro h x0 x1 x2; exact a_eq rfl a_none
  | succ n ih => intro h x0 x1 x2; exact a_eq rfl (t_X8_word_b2_body h0 N  (f_X8_word_b2 N  n) ih h x0 x1 x2)
end
set_option maxRecDepth 100000 in
set_option maxHeartbeats 4000000 in
theorem c_X8_word (l : Launch) (g : GG) (h0 : AH) (N : Nat) (p0 : Nat) (p1 : Nat) : CN l g yX8_word M_X8_word false [.ref p0, .ref p1] h0 rSv (f_X8_word h0 N p0 p1) := by
  refine CN.of (by decide) rfl (fun hh => by first | rfl | cases hh) (Nat.le_of_ble_eq_true rfl) ?_
  unfold f_X8_word
  refine a_gd (fun hkd => ?_)
  refine a_iconst (v := 0) dX8_word_0 (by decide) ?_
  refine a_istore_n (lc2 := [(2, .int 0), (0, .ref p0), (1, .ref p1)]) dX8_word_1 rfl (by decide) rfl ?_
  refine a_pick (lc2 := [(0, .ref p0), (1, .ref p1), (2, .int 0)]) [1, 2, 0] rfl ?_
  exact t_X8_word_b2 h0 N N h0 p0 p1 0
theorem dX8_number_0 : decode cX8_number 0 = .ok (.iconst 0, 1) := by decide +kernel
theorem dX8_number_1 : decode cX8_number 1 = .ok (.istore_n 2, 1) := by decide +kernel
theorem dX8_number_2 : decode cX8_number 2 = .ok (.iconst 0, 1) := by decide +kernel
theorem dX8_number_3 : decode cX8_number 3 = .ok (.istore_n 3, 1) := by decide +kernel
theorem dX8_number_4 : decode cX8_number 4 = .ok (.iload_n 3, 1) := by decide +kernel
theorem dX8_number_5 : decode cX8_number 5 = .ok (.iload_n 1, 1) := by decide +kernel
theorem dX8_number_6 : decode cX8_number 6 = .ok (.if_icmp .ge 57, 3) := by decide +kernel
theorem dX8_number_9 : decode cX8_number 9 = .ok (.aload_n 0, 1) := by decide +kernel
theorem dX8_number_10 : decode cX8_number 10 = .ok (.getfield 20, 3) := by decide +kernel
theorem dX8_number_13 : decode cX8_number 13 = .ok (.ifCond .ne 50, 3) := by decide +kernel
theorem dX8_number_16 : decode cX8_number 16 = .ok (.aload_n 0, 1) := by decide +kernel
theorem dX8_number_17 : decode cX8_number 17 = .ok (.invokevirtual 27, 3) := by decide +kernel
theorem dX8_number_20 : decode cX8_number 20 = .ok (.bipush 48, 2) := by decide +kernel
theorem dX8_number_22 : decode cX8_number 22 = .ok (.if_icmp .lt 41, 3) := by decide +kernel
theorem dX8_number_25 : decode cX8_number 25 = .ok (.aload_n 0, 1) := by decide +kernel
theorem dX8_number_26 : decode cX8_number 26 = .ok (.invokevirtual 27, 3) := by decide +kernel
theorem dX8_number_29 : decode cX8_number 29 = .ok (.bipush 57, 2) := by decide +kernel
theorem dX8_number_31 : decode cX8_number 31 = .ok (.if_icmp .gt 32, 3) := by decide +kernel
theorem dX8_number_34 : decode cX8_number 34 = .ok (.iload_n 2, 1) := by decide +kernel
theorem dX8_number_35 : decode cX8_number 35 = .ok (.bipush 10, 2) := by decide +kernel
theorem dX8_number_37 : decode cX8_number 37 = .ok (.imul, 1) := by decide +kernel
theorem dX8_number_38 : decode cX8_number 38 = .ok (.aload_n 0, 1) := by decide +kernel
theorem dX8_number_39 : decode cX8_number 39 = .ok (.invokevirtual 27, 3) := by decide +kernel
theorem dX8_number_42 : decode cX8_number 42 = .ok (.iadd, 1) := by decide +kernel
theorem dX8_number_43 : decode cX8_number 43 = .ok (.bipush 48, 2) := by decide +kernel
theorem dX8_number_45 : decode cX8_number 45 = .ok (.isub, 1) := by decide +kernel
theorem dX8_number_46 : decode cX8_number 46 = .ok (.istore_n 2, 1) := by decide +kernel
theorem dX8_number_47 : decode cX8_number 47 = .ok (.aload_n 0, 1) := by decide +kernel
theorem dX8_number_48 : decode cX8_number 48 = .ok (.dup, 1) := by decide +kernel
theorem dX8_number_49 : decode cX8_number 49 = .ok (.getfield 17, 3) := by decide +kernel
theorem dX8_number_52 : decode cX8_number 52 = .ok (.iconst 1, 1) := by decide +kernel
theorem dX8_number_53 : decode cX8_number 53 = .ok (.iadd, 1) := by decide +kernel
theorem dX8_number_54 : decode cX8_number 54 = .ok (.putfield 17, 3) := by decide +kernel
theorem dX8_number_57 : decode cX8_number 57 = .ok (.iinc 3 1, 3) := by decide +kernel
theorem dX8_number_60 : decode cX8_number 60 = .ok (.goto (-56), 3) := by decide +kernel
theorem dX8_number_63 : decode cX8_number 63 = .ok (.iload_n 3, 1) := by decide +kernel
theorem dX8_number_64 : decode cX8_number 64 = .ok (.ifCond .ne 8, 3) := by decide +kernel
theorem dX8_number_67 : decode cX8_number 67 = .ok (.aload_n 0, 1) := by decide +kernel
theorem dX8_number_68 : decode cX8_number 68 = .ok (.iconst 1, 1) := by decide +kernel
theorem dX8_number_69 : decode cX8_number 69 = .ok (.putfield 20, 3) := by decide +kernel
theorem dX8_number_72 : decode cX8_number 72 = .ok (.iload_n 2, 1) := by decide +kernel
theorem dX8_number_73 : decode cX8_number 73 = .ok (.ireturn, 1) := by decide +kernel
abbrev M_X8_number : MI := (RX8, cX8_number, 4, (some .int), ({ frames := 1, cells := 0, slots := 0, locals := 20 } : Room), 0, 0, false)
def f_X8_number_b63 (N : Nat) (h : AH) (x0 : Nat) (x2 : Int32) (x3 : Int32) : Option (Int32 × AH) := (if x3 = 0 then (xpz h x0 9 3 1).bind fun h12 => some (x2, h12) else some (x2, h))
def f_X8_number_b4_body (N : Nat) (K4 : AH → Nat → Int32 → Int32 → Int32 → Option (Int32 × AH)) (h : AH) (x0 : Nat) (x1 : Int32) (x2 : Int32) (x3 : Int32) : Option (Int32 × AH) := (if x1 ≤ x3 then f_X8_number_b63 N h x0 x2 x3 else (xgi h x0 9 3).bind fun v2 => (if v2 = 0 then (f_X8_next h x0).bind fun v4 => (if v4 < 48 then f_X8_number_b63 N h x0 x2 x3 else (f_X8_next h x0).bind fun v6 => (if 57 < v6 then f_X8_number_b63 N h x0 x2 x3 else (f_X8_next h x0).bind fun v8 => (xgi h x0 9 2).bind fun v9 => (xpi h x0 9 2 (v9 + 1)).bind fun h10 => K4 h10 x0 x1 (((x2 * 10) + v8) - 48) (x3 + 1))) else f_X8_number_b63 N h x0 x2 x3))
def f_X8_number_b4 (N : Nat) : Nat → AH → Nat → Int32 → Int32 → Int32 → Option (Int32 × AH)
  | 0, _, _, _, _, _ => none
  | n + 1, h, x0, x1, x2, x3 => f_X8_number_b4_body N  (f_X8_number_b4 N  n) h x0 x1 x2 x3
def f_X8_number (h0 : AH) (N : Nat) (p0 : Nat) (p1 : Int32) : Option (Int32 × AH) := if kd h0 p0 = 9 + 1 then f_X8_number_b4 N N h0 p0 p1 0 0 else none
theorem g_X8_number {h0 : AH} {N : Nat} {p0 : Nat} {p1 : Int32} {x : (Int32 × AH)} (e : f_X8_number h0 N p0 p1 = some x) : kd h0 p0 = 9 + 1 := by
  unfold f_X8_number at e
  by_cases hk : kd h0 p0 = 9 + 1
  · exact hk
  · rw [if_neg hk] at e
    cases e
theorem km_X8_number : KM yX8_number M_X8_number 1 := ⟨in_tb 560 (by decide +kernel) rfl, in_tb 6 (by decide +kernel) rfl, by decide +kernel, rfl, rfl⟩
theorem hm_X8_number : M_X8_number.2.2.2.2.2.1 = 0 ∧ M_X8_number.2.2.2.2.2.2.1 = 0 := ⟨rfl, rfl⟩
section
variable {l : Launch} {g : GG}
set_option maxRecDepth 100000 in
set_option maxHeartbeats 4000000 in
theorem t_X8_number_b63 (h0 : AH) (N : Nat) (h : AH) (x0 : Nat) (x2 : Int32) (x3 : Int32) : AO l g M_X8_number false h0 63 [(0, .ref x0), (2, .int x2), (3, .int x3)] [] h 0 0 rSi (f_X8_number_b63 N  h x0 x2 x3) := by
  unfold f_X8_number_b63
  refine a_iload_n dX8_number_63 rfl 2 rfl ?_
  refine a_if_ne 72 dX8_number_64 (by decide) (fun c11 => ?_) (fun c11 => ?_)
  · refine a_aload_n dX8_number_67 rfl 0 rfl ?_
    refine a_iconst (v := 1) dX8_number_68 (by decide) ?_
    refine a_putz kc9 3 dX8_number_69 (by decide) rfl w_fieldLink_RainCover_Tape_20 rfl rfl (fun h12 => ?_)
    refine a_iload_n dX8_number_72 rfl 1 rfl ?_
    exact a_iret dX8_number_73 rfl rfl (by decide) (by decide)
  · refine a_iload_n dX8_number_72 rfl 1 rfl ?_
    exact a_iret dX8_number_73 rfl rfl (by decide) (by decide)
set_option maxRecDepth 100000 in
set_option maxHeartbeats 4000000 in
theorem t_X8_number_b4_body (h0 : AH) (N : Nat) (K4 : AH → Nat → Int32 → Int32 → Int32 → Option (Int32 × AH)) (hK4 : ∀ (z : AH) (z0 : Nat) (z1 : Int32) (z2 : Int32) (z3 : Int32), AO l g M_X8_number false h0 4 [(0, .ref z0), (1, .int z1), (2, .int z2), (3, .int z3)] [] z 0 0 rSi (K4 z z0 z1 z2 z3)) (h : AH) (x0 : Nat) (x1 : Int32) (x2 : Int32) (x3 : Int32) : AO l g M_X8_number false h0 4 [(0, .ref x0), (1, .int x1), (2, .int x2), (3, .int x3)] [] h 0 0 rSi (f_X8_number_b4_body N K4 h x0 x1 x2 x3) := by
  unfold f_X8_number_b4_body
  refine a_iload_n dX8_number_4 rfl 3 rfl ?_
  refine a_iload_n dX8_number_5 rfl 1 rfl ?_
  refine a_icmp_ge 63 dX8_number_6 (by decide) (fun c1 => ?_) (fun c1 => ?_)
  · refine a_pick (lc2 := [(0, .ref x0), (2, .int x2), (3, .int x3)]) [0, 2, 3] rfl ?_
    exact t_X8_number_b63 h0 N h x0 x2 x3
  · refine a_aload_n dX8_number_9 rfl 0 rfl ?_
    refine a_geti kc9 3 dX8_number_10 (by decide) rfl w_fieldLink_RainCover_Tape_20 (fun v2 => ?_)
    refine a_if_ne 63 dX8_number_13 (by decide) (fun c3 => ?_) (fun c3 => ?_)
    · refine a_aload_n dX8_number_16 rfl 0 rfl ?_
      refine a_cV_Pi (r := x0) (ci := 9) (as := []) (st := []) dX8_number_17 (c_X8_next l g h x0) rfl km_X8_next (hm_X8_next) rfl (by decide) rfl (fun _ ee => g_X8_next ee) w_methodLink_RainCover_Tape_27 w_instanceMethod_RainCover_Tape_next___I w_selects_RainCover_Tape_RainCover_Tape_next___I_RainCover_Tape_next___I ⟨⟨by decide, by decide⟩, ⟨by decide, by decide⟩⟩ (Nat.le_of_ble_eq_true rfl) (fun v4 => ?_)
      refine a_bipush (v := 48) dX8_number_20 (by decide) ?_
      refine a_icmp_lt 63 dX8_number_22 (by decide) (fun c5 => ?_) (fun c5 => ?_)
      · refine a_pick (lc2 := [(0, .ref x0), (2, .int x2), (3, .int x3)]) [0, 2, 3] rfl ?_
        exact t_X8_number_b63 h0 N h x0 x2 x3
      · refine a_aload_n dX8_number_25 rfl 0 rfl ?_
        refine a_cV_Pi (r := x0) (ci := 9) (as := []) (st := []) dX8_number_26 (c_X8_next l g h x0) rfl km_X8_next (hm_X8_next) rfl (by decide) rfl (fun _ ee => g_X8_next ee) w_methodLink_RainCover_Tape_27 w_instanceMethod_RainCover_Tape_next___I w_selects_RainCover_Tape_RainCover_Tape_next___I_RainCover_Tape_next___I ⟨⟨by decide, by decide⟩, ⟨by decide, by decide⟩⟩ (Nat.le_of_ble_eq_true rfl) (fun v6 => ?_)
        refine a_bipush (v := 57) dX8_number_29 (by decide) ?_
        refine a_icmp_gt 63 dX8_number_31 (by decide) (fun c7 => ?_) (fun c7 => ?_)
        · refine a_pick (lc2 := [(0, .ref x0), (2, .int x2), (3, .int x3)]) [0, 2, 3] rfl ?_
          exact t_X8_number_b63 h0 N h x0 x2 x3
        · refine a_iload_n dX8_number_34 rfl 2 rfl ?_
          refine a_bipush (v := 10) dX8_number_35 (by decide) ?_
          refine a_imul dX8_number_37 ?_
          refine a_aload_n dX8_number_38 rfl 0 rfl ?_
          refine a_cV_Pi (r := x0) (ci := 9) (as := []) (st := [.int (x2 * 10)]) dX8_number_39 (c_X8_next l g h x0) rfl km_X8_next (hm_X8_next) rfl (by decide) rfl (fun _ ee => g_X8_next ee) w_methodLink_RainCover_Tape_27 w_instanceMethod_RainCover_Tape_next___I w_selects_RainCover_Tape_RainCover_Tape_next___I_RainCover_Tape_next___I ⟨⟨by decide, by decide⟩, ⟨by decide, by decide⟩⟩ (Nat.le_of_ble_eq_true rfl) (fun v8 => ?_)
          refine a_iadd dX8_number_42 ?_
          refine a_bipush (v := 48) dX8_number_43 (by decide) ?_
          refine a_isub dX8_number_45 ?_
          refine a_istore_n (lc2 := [(2, .int (((x2 * 10) + v8) - 48)), (0, .ref x0), (1, .int x1), (3, .int x3)]) dX8_number_46 rfl (by decide) rfl ?_
          refine a_aload_n dX8_number_47 rfl 1 rfl ?_
          refine a_dup dX8_number_48 rfl ?_
          refine a_geti kc9 2 dX8_number_49 (by decide) rfl w_fieldLink_RainCover_Tape_17 (fun v9 => ?_)
          refine a_iconst (v := 1) dX8_number_52 (by decide) ?_
          refine a_iadd dX8_number_53 ?_
          refine a_puti kc9 2 dX8_number_54 (by decide) rfl w_fieldLink_RainCover_Tape_17 rfl rfl (fun h10 => ?_)
          refine a_iinc (q := 3) (v := (x3 + 1)) (lc2 := [(3, .int (x3 + 1)), (2, .int (((x2 * 10) + v8) - 48)), (0, .ref x0), (1, .int x1)]) dX8_number_57 rfl rfl (by decide) rfl ?_
          refine a_goto 4 dX8_number_60 (by decide) ?_
          refine a_pick (lc2 := [(0, .ref x0), (1, .int x1), (2, .int (((x2 * 10) + v8) - 48)), (3, .int (x3 + 1))]) [2, 3, 1, 0] rfl ?_
          exact hK4 h10 x0 x1 (((x2 * 10) + v8) - 48) (x3 + 1)
    · refine a_pick (lc2 := [(0, .ref x0), (2, .int x2), (3, .int x3)]) [0, 2, 3] rfl ?_
      exact t_X8_number_b63 h0 N h x0 x2 x3
set_option maxRecDepth 100000 in
set_option maxHeartbeats 4000000 in
theorem t_X8_number_b4 (h0 : AH) (N : Nat) : ∀ (n : Nat) (h : AH) (x0 : Nat) (x1 : Int32) (x2 : Int32) (x3 : Int32) , AO l g M_X8_number false h0 4 [(0, .ref x0), (1, .int x1), (2, .int x2), (3, .int x3)] [] h 0 0 rSi (f_X8_number_b4 N  n h x0 x1 x2 x3) := by
  intro n
  induction n with
  | zero => intro h x0 x1 x2 x3; exact a_eq rfl a_none
  | succ n ih => intro h x0 x1 x2 x3; exact a_eq rfl (t_X8_number_b4_body h0 N  (f_X8_number_b4 N  n) ih h x0 x1 x2 x3)
end
set_option maxRecDepth 100000 in
set_option maxHeartbeats 4000000 in
theorem c_X8_number (l : Launch) (g : GG) (h0 : AH) (N : Nat) (p0 : Nat) (p1 : Int32) : CN l g yX8_number M_X8_number false [.ref p0, .int p1] h0 rSi (f_X8_number h0 N p0 p1) := by
  refine CN.of (by decide) rfl (fun hh => by first | rfl | cases hh) (Nat.le_of_ble_eq_true rfl) ?_
  unfold f_X8_number
  refine a_gd (fun hkd => ?_)
  refine a_iconst (v := 0) dX8_number_0 (by decide) ?_
  refine a_istore_n (lc2 := [(2, .int 0), (0, .ref p0), (1, .int p1)]) dX8_number_1 rfl (by decide) rfl ?_
  refine a_iconst (v := 0) dX8_number_2 (by decide) ?_
  refine a_istore_n (lc2 := [(3, .int 0), (2, .int 0), (0, .ref p0), (1, .int p1)]) dX8_number_3 rfl (by decide) rfl ?_
  refine a_pick (lc2 := [(0, .ref p0), (1, .int p1), (2, .int 0), (3, .int 0)]) [2, 3, 1, 0] rfl ?_
  exact t_X8_number_b4 h0 N N h0 p0 p1 0 0
theorem dX8_readSpan_0 : decode cX8_readSpan 0 = .ok (.aload_n 1, 1) := by decide +kernel
theorem dX8_readSpan_1 : decode cX8_readSpan 1 = .ok (.getfield 99, 3) := by decide +kernel
theorem dX8_readSpan_4 : decode cX8_readSpan 4 = .ok (.iload_n 2, 1) := by decide +kernel
theorem dX8_readSpan_5 : decode cX8_readSpan 5 = .ok (.aload_n 0, 1) := by decide +kernel
theorem dX8_readSpan_6 : decode cX8_readSpan 6 = .ok (.iconst 2, 1) := by decide +kernel
theorem dX8_readSpan_7 : decode cX8_readSpan 7 = .ok (.invokevirtual 47, 3) := by decide +kernel
theorem dX8_readSpan_10 : decode cX8_readSpan 10 = .ok (.iastore, 1) := by decide +kernel
theorem dX8_readSpan_11 : decode cX8_readSpan 11 = .ok (.aload_n 0, 1) := by decide +kernel
theorem dX8_readSpan_12 : decode cX8_readSpan 12 = .ok (.ldc 118, 2) := by decide +kernel
theorem dX8_readSpan_14 : decode cX8_readSpan 14 = .ok (.invokevirtual 43, 3) := by decide +kernel
theorem dX8_readSpan_17 : decode cX8_readSpan 17 = .ok (.aload_n 1, 1) := by decide +kernel
theorem dX8_readSpan_18 : decode cX8_readSpan 18 = .ok (.getfield 102, 3) := by decide +kernel
theorem dX8_readSpan_21 : decode cX8_readSpan 21 = .ok (.iload_n 2, 1) := by decide +kernel
theorem dX8_readSpan_22 : decode cX8_readSpan 22 = .ok (.aload_n 0, 1) := by decide +kernel
theorem dX8_readSpan_23 : decode cX8_readSpan 23 = .ok (.iconst 2, 1) := by decide +kernel
theorem dX8_readSpan_24 : decode cX8_readSpan 24 = .ok (.invokevirtual 47, 3) := by decide +kernel
theorem dX8_readSpan_27 : decode cX8_readSpan 27 = .ok (.iastore, 1) := by decide +kernel
theorem dX8_readSpan_28 : decode cX8_readSpan 28 = .ok (.return_, 1) := by decide +kernel
abbrev M_X8_readSpan : MI := (RX8, cX8_readSpan, 3, none, ({ frames := 5, cells := 0, slots := 0, locals := 107 } : Room), 0, 0, false)
def f_X8_readSpan (h0 : AH) (N : Nat) (p0 : Nat) (p1 : Nat) (p2 : Int32) : Option AH := if kd h0 p0 = 9 + 1 then (xgr h0 p1 11 7).bind fun v1 => (f_X8_number h0 N p0 2).bind fun q2 => (xis q2.2 v1 p2 q2.1).bind fun h3 => (f_X8_word h3 N p0 (9100 + 4)).bind fun q4 => (xgr q4 p1 11 8).bind fun v5 => (f_X8_number q4 N p0 2).bind fun q6 => (xis q6.2 v5 p2 q6.1).bind fun h7 => some h7 else none
theorem g_X8_readSpan {h0 : AH} {N : Nat} {p0 : Nat} {p1 : Nat} {p2 : Int32} {x : AH} (e : f_X8_readSpan h0 N p0 p1 p2 = some x) : kd h0 p0 = 9 + 1 := by
  unfold f_X8_readSpan at e
  by_cases hk : kd h0 p0 = 9 + 1
  · exact hk
  · rw [if_neg hk] at e
    cases e
theorem km_X8_readSpan : KM yX8_readSpan M_X8_readSpan 2 := ⟨in_tb 567 (by decide +kernel) rfl, in_tb 6 (by decide +kernel) rfl, by decide +kernel, rfl, rfl⟩
theorem hm_X8_readSpan : M_X8_readSpan.2.2.2.2.2.1 = 0 ∧ M_X8_readSpan.2.2.2.2.2.2.1 = 0 := ⟨rfl, rfl⟩
section
variable {l : Launch} {g : GG}
end
set_option maxRecDepth 100000 in
set_option maxHeartbeats 4000000 in
theorem c_X8_readSpan (l : Launch) (g : GG) (h0 : AH) (N : Nat) (p0 : Nat) (p1 : Nat) (p2 : Int32) : CN l g yX8_readSpan M_X8_readSpan false [.ref p0, .ref p1, .int p2] h0 rSv (f_X8_readSpan h0 N p0 p1 p2) := by
  refine CN.of (by decide) rfl (fun hh => by first | rfl | cases hh) (Nat.le_of_ble_eq_true rfl) ?_
  unfold f_X8_readSpan
  refine a_gd (fun hkd => ?_)
  refine a_aload_n dX8_readSpan_0 rfl 1 rfl ?_
  refine a_getr kc11 7 dX8_readSpan_1 (by decide) rfl w_fieldLink_RainCover_Tape_99 (fun v1 => ?_)
  refine a_iload_n dX8_readSpan_4 rfl 2 rfl ?_
  refine a_aload_n dX8_readSpan_5 rfl 0 rfl ?_
  refine a_iconst (v := 2) dX8_readSpan_6 (by decide) ?_
  refine a_cV_Si (r := p0) (ci := 9) (as := [.int 2]) (st := [.int p2, .ref v1]) dX8_readSpan_7 (c_X8_number l g h0 N p0 2) rfl km_X8_number (hm_X8_number) rfl (by decide) rfl (fun _ ee => g_X8_number ee) w_methodLink_RainCover_Tape_47 w_instanceMethod_RainCover_Tape_number__I_I w_selects_RainCover_Tape_RainCover_Tape_number__I_I_RainCover_Tape_number__I_I ⟨⟨by decide, by decide⟩, ⟨by decide, by decide⟩⟩ (Nat.le_of_ble_eq_true rfl) (fun q2 => ?_)
  refine a_iast dX8_readSpan_10 (fun h3 => ?_)
  refine a_aload_n dX8_readSpan_11 rfl 0 rfl ?_
  refine a_ldcS 4 dX8_readSpan_12 (by decide) ⟨rfl, rfl⟩ ?_
  refine a_cV_Sv (r := p0) (ci := 9) (as := [.ref (9100 + 4)]) (st := []) dX8_readSpan_14 (c_X8_word l g h3 N p0 (9100 + 4)) rfl km_X8_word (hm_X8_word) rfl (by decide) rfl (fun _ ee => g_X8_word ee) w_methodLink_RainCover_Tape_43 w_instanceMethod_RainCover_Tape_word__Ljava_lang_String__V w_selects_RainCover_Tape_RainCover_Tape_word__Ljava_lang_String__V_RainCover_Tape_word__Ljava_lang_String__V ⟨⟨by decide, by decide⟩, ⟨by decide, by decide⟩⟩ (Nat.le_of_ble_eq_true rfl) (fun q4 => ?_)
  refine a_aload_n dX8_readSpan_17 rfl 1 rfl ?_
  refine a_getr kc11 8 dX8_readSpan_18 (by decide) rfl w_fieldLink_RainCover_Tape_102 (fun v5 => ?_)
  refine a_iload_n dX8_readSpan_21 rfl 2 rfl ?_
  refine a_aload_n dX8_readSpan_22 rfl 0 rfl ?_
  refine a_iconst (v := 2) dX8_readSpan_23 (by decide) ?_
  refine a_cV_Si (r := p0) (ci := 9) (as := [.int 2]) (st := [.int p2, .ref v5]) dX8_readSpan_24 (c_X8_number l g q4 N p0 2) rfl km_X8_number (hm_X8_number) rfl (by decide) rfl (fun _ ee => g_X8_number ee) w_methodLink_RainCover_Tape_47 w_instanceMethod_RainCover_Tape_number__I_I w_selects_RainCover_Tape_RainCover_Tape_number__I_I_RainCover_Tape_number__I_I ⟨⟨by decide, by decide⟩, ⟨by decide, by decide⟩⟩ (Nat.le_of_ble_eq_true rfl) (fun q6 => ?_)
  refine a_iast dX8_readSpan_27 (fun h7 => ?_)
  exact a_vret dX8_readSpan_28 rfl rfl (by decide) (by decide)
theorem dX8_readRate_0 : decode cX8_readRate 0 = .ok (.aload_n 1, 1) := by decide +kernel
theorem dX8_readRate_1 : decode cX8_readRate 1 = .ok (.iconst 1, 1) := by decide +kernel
theorem dX8_readRate_2 : decode cX8_readRate 2 = .ok (.putfield 38, 3) := by decide +kernel
theorem dX8_readRate_5 : decode cX8_readRate 5 = .ok (.aload_n 0, 1) := by decide +kernel
theorem dX8_readRate_6 : decode cX8_readRate 6 = .ok (.ldc 41, 2) := by decide +kernel
theorem dX8_readRate_8 : decode cX8_readRate 8 = .ok (.invokevirtual 43, 3) := by decide +kernel
theorem dX8_readRate_11 : decode cX8_readRate 11 = .ok (.aload_n 1, 1) := by decide +kernel
theorem dX8_readRate_12 : decode cX8_readRate 12 = .ok (.aload_n 0, 1) := by decide +kernel
theorem dX8_readRate_13 : decode cX8_readRate 13 = .ok (.iconst 4, 1) := by decide +kernel
theorem dX8_readRate_14 : decode cX8_readRate 14 = .ok (.invokevirtual 47, 3) := by decide +kernel
theorem dX8_readRate_17 : decode cX8_readRate 17 = .ok (.putfield 51, 3) := by decide +kernel
theorem dX8_readRate_20 : decode cX8_readRate 20 = .ok (.aload_n 0, 1) := by decide +kernel
theorem dX8_readRate_21 : decode cX8_readRate 21 = .ok (.ldc 54, 2) := by decide +kernel
theorem dX8_readRate_23 : decode cX8_readRate 23 = .ok (.invokevirtual 43, 3) := by decide +kernel
theorem dX8_readRate_26 : decode cX8_readRate 26 = .ok (.aload_n 1, 1) := by decide +kernel
theorem dX8_readRate_27 : decode cX8_readRate 27 = .ok (.aload_n 0, 1) := by decide +kernel
theorem dX8_readRate_28 : decode cX8_readRate 28 = .ok (.iconst 4, 1) := by decide +kernel
theorem dX8_readRate_29 : decode cX8_readRate 29 = .ok (.invokevirtual 47, 3) := by decide +kernel
theorem dX8_readRate_32 : decode cX8_readRate 32 = .ok (.putfield 56, 3) := by decide +kernel
theorem dX8_readRate_35 : decode cX8_readRate 35 = .ok (.aload_n 0, 1) := by decide +kernel
theorem dX8_readRate_36 : decode cX8_readRate 36 = .ok (.ldc 59, 2) := by decide +kernel
theorem dX8_readRate_38 : decode cX8_readRate 38 = .ok (.invokevirtual 43, 3) := by decide +kernel
theorem dX8_readRate_41 : decode cX8_readRate 41 = .ok (.aload_n 1, 1) := by decide +kernel
theorem dX8_readRate_42 : decode cX8_readRate 42 = .ok (.aload_n 0, 1) := by decide +kernel
theorem dX8_readRate_43 : decode cX8_readRate 43 = .ok (.iconst 4, 1) := by decide +kernel
theorem dX8_readRate_44 : decode cX8_readRate 44 = .ok (.invokevirtual 47, 3) := by decide +kernel
theorem dX8_readRate_47 : decode cX8_readRate 47 = .ok (.putfield 61, 3) := by decide +kernel
theorem dX8_readRate_50 : decode cX8_readRate 50 = .ok (.aload_n 0, 1) := by decide +kernel
theorem dX8_readRate_51 : decode cX8_readRate 51 = .ok (.ldc 64, 2) := by decide +kernel
theorem dX8_readRate_53 : decode cX8_readRate 53 = .ok (.invokevirtual 43, 3) := by decide +kernel
theorem dX8_readRate_56 : decode cX8_readRate 56 = .ok (.aload_n 0, 1) := by decide +kernel
theorem dX8_readRate_57 : decode cX8_readRate 57 = .ok (.aload_n 1, 1) := by decide +kernel
theorem dX8_readRate_58 : decode cX8_readRate 58 = .ok (.iconst 0, 1) := by decide +kernel
theorem dX8_readRate_59 : decode cX8_readRate 59 = .ok (.invokevirtual 66, 3) := by decide +kernel
theorem dX8_readRate_62 : decode cX8_readRate 62 = .ok (.aload_n 0, 1) := by decide +kernel
theorem dX8_readRate_63 : decode cX8_readRate 63 = .ok (.ldc 70, 2) := by decide +kernel
theorem dX8_readRate_65 : decode cX8_readRate 65 = .ok (.invokevirtual 43, 3) := by decide +kernel
theorem dX8_readRate_68 : decode cX8_readRate 68 = .ok (.aload_n 1, 1) := by decide +kernel
theorem dX8_readRate_69 : decode cX8_readRate 69 = .ok (.aload_n 0, 1) := by decide +kernel
theorem dX8_readRate_70 : decode cX8_readRate 70 = .ok (.iconst 4, 1) := by decide +kernel
theorem dX8_readRate_71 : decode cX8_readRate 71 = .ok (.invokevirtual 47, 3) := by decide +kernel
theorem dX8_readRate_74 : decode cX8_readRate 74 = .ok (.putfield 72, 3) := by decide +kernel
theorem dX8_readRate_77 : decode cX8_readRate 77 = .ok (.aload_n 1, 1) := by decide +kernel
theorem dX8_readRate_78 : decode cX8_readRate 78 = .ok (.getfield 75, 3) := by decide +kernel
theorem dX8_readRate_81 : decode cX8_readRate 81 = .ok (.iconst 0, 1) := by decide +kernel
theorem dX8_readRate_82 : decode cX8_readRate 82 = .ok (.iconst 0, 1) := by decide +kernel
theorem dX8_readRate_83 : decode cX8_readRate 83 = .ok (.iastore, 1) := by decide +kernel
theorem dX8_readRate_84 : decode cX8_readRate 84 = .ok (.aload_n 1, 1) := by decide +kernel
theorem dX8_readRate_85 : decode cX8_readRate 85 = .ok (.iconst 1, 1) := by decide +kernel
theorem dX8_readRate_86 : decode cX8_readRate 86 = .ok (.putfield 79, 3) := by decide +kernel
theorem dX8_readRate_89 : decode cX8_readRate 89 = .ok (.return_, 1) := by decide +kernel
abbrev M_X8_readRate : MI := (RX8, cX8_readRate, 2, none, ({ frames := 6, cells := 0, slots := 0, locals := 129 } : Room), 0, 0, false)
def f_X8_readRate (h0 : AH) (N : Nat) (p0 : Nat) (p1 : Nat) : Option AH := if kd h0 p0 = 9 + 1 then (xpz h0 p1 11 0 1).bind fun h1 => (f_X8_word h1 N p0 (9100 + 0)).bind fun q2 => (f_X8_number q2 N p0 4).bind fun q3 => (xpi q3.2 p1 11 1 q3.1).bind fun h4 => (f_X8_word h4 N p0 (9100 + 1)).bind fun q5 => (f_X8_number q5 N p0 4).bind fun q6 => (xpi q6.2 p1 11 2 q6.1).bind fun h7 => (f_X8_word h7 N p0 (9100 + 2)).bind fun q8 => (f_X8_number q8 N p0 4).bind fun q9 => (xpi q9.2 p1 11 3 q9.1).bind fun h10 => (f_X8_word h10 N p0 (9100 + 3)).bind fun q11 => (f_X8_readSpan q11 N p0 p1 0).bind fun q12 => (f_X8_word q12 N p0 (9100 + 5)).bind fun q13 => (f_X8_number q13 N p0 4).bind fun q14 => (xpi q14.2 p1 11 4 q14.1).bind fun h15 => (xgr h15 p1 11 6).bind fun v16 => (xis h15 v16 0 0).bind fun h17 => (xpi h17 p1 11 5 1).bind fun h18 => some h18 else none
theorem g_X8_readRate {h0 : AH} {N : Nat} {p0 : Nat} {p1 : Nat} {x : AH} (e : f_X8_readRate h0 N p0 p1 = some x) : kd h0 p0 = 9 + 1 := by
  unfold f_X8_readRate at e
  by_cases hk : kd h0 p0 = 9 + 1
  · exact hk
  · rw [if_neg hk] at e
    cases e
theorem km_X8_readRate : KM yX8_readRate M_X8_readRate 1 := ⟨in_tb 505 (by decide +kernel) rfl, in_tb 6 (by decide +kernel) rfl, by decide +kernel, rfl, rfl⟩
theorem hm_X8_readRate : M_X8_readRate.2.2.2.2.2.1 = 0 ∧ M_X8_readRate.2.2.2.2.2.2.1 = 0 := ⟨rfl, rfl⟩
section
variable {l : Launch} {g : GG}
end
set_option maxRecDepth 100000 in
set_option maxHeartbeats 4000000 in
theorem c_X8_readRate (l : Launch) (g : GG) (h0 : AH) (N : Nat) (p0 : Nat) (p1 : Nat) : CN l g yX8_readRate M_X8_readRate false [.ref p0, .ref p1] h0 rSv (f_X8_readRate h0 N p0 p1) := by
  refine CN.of (by decide) rfl (fun hh => by first | rfl | cases hh) (Nat.le_of_ble_eq_true rfl) ?_
  unfold f_X8_readRate
  refine a_gd (fun hkd => ?_)
  refine a_aload_n dX8_readRate_0 rfl 1 rfl ?_
  refine a_iconst (v := 1) dX8_readRate_1 (by decide) ?_
  refine a_putz kc11 0 dX8_readRate_2 (by decide) rfl w_fieldLink_RainCover_Tape_38 rfl rfl (fun h1 => ?_)
  refine a_aload_n dX8_readRate_5 rfl 0 rfl ?_
  refine a_ldcS 0 dX8_readRate_6 (by decide) ⟨rfl, rfl⟩ ?_
  refine a_cV_Sv (r := p0) (ci := 9) (as := [.ref (9100 + 0)]) (st := []) dX8_readRate_8 (c_X8_word l g h1 N p0 (9100 + 0)) rfl km_X8_word (hm_X8_word) rfl (by decide) rfl (fun _ ee => g_X8_word ee) w_methodLink_RainCover_Tape_43 w_instanceMethod_RainCover_Tape_word__Ljava_lang_String__V w_selects_RainCover_Tape_RainCover_Tape_word__Ljava_lang_String__V_RainCover_Tape_word__Ljava_lang_String__V ⟨⟨by decide, by decide⟩, ⟨by decide, by decide⟩⟩ (Nat.le_of_ble_eq_true rfl) (fun q2 => ?_)
  refine a_aload_n dX8_readRate_11 rfl 1 rfl ?_
  refine a_aload_n dX8_readRate_12 rfl 0 rfl ?_
  refine a_iconst (v := 4) dX8_readRate_13 (by decide) ?_
  refine a_cV_Si (r := p0) (ci := 9) (as := [.int 4]) (st := [.ref p1]) dX8_readRate_14 (c_X8_number l g q2 N p0 4) rfl km_X8_number (hm_X8_number) rfl (by decide) rfl (fun _ ee => g_X8_number ee) w_methodLink_RainCover_Tape_47 w_instanceMethod_RainCover_Tape_number__I_I w_selects_RainCover_Tape_RainCover_Tape_number__I_I_RainCover_Tape_number__I_I ⟨⟨by decide, by decide⟩, ⟨by decide, by decide⟩⟩ (Nat.le_of_ble_eq_true rfl) (fun q3 => ?_)
  refine a_puti kc11 1 dX8_readRate_17 (by decide) rfl w_fieldLink_RainCover_Tape_51 rfl rfl (fun h4 => ?_)
  refine a_aload_n dX8_readRate_20 rfl 0 rfl ?_
  refine a_ldcS 1 dX8_readRate_21 (by decide) ⟨rfl, rfl⟩ ?_
  refine a_cV_Sv (r := p0) (ci := 9) (as := [.ref (9100 + 1)]) (st := []) dX8_readRate_23 (c_X8_word l g h4 N p0 (9100 + 1)) rfl km_X8_word (hm_X8_word) rfl (by decide) rfl (fun _ ee => g_X8_word ee) w_methodLink_RainCover_Tape_43 w_instanceMethod_RainCover_Tape_word__Ljava_lang_String__V w_selects_RainCover_Tape_RainCover_Tape_word__Ljava_lang_String__V_RainCover_Tape_word__Ljava_lang_String__V ⟨⟨by decide, by decide⟩, ⟨by decide, by decide⟩⟩ (Nat.le_of_ble_eq_true rfl) (fun q5 => ?_)
  refine a_aload_n dX8_readRate_26 rfl 1 rfl ?_
  refine a_aload_n dX8_readRate_27 rfl 0 rfl ?_
  refine a_iconst (v := 4) dX8_readRate_28 (by decide) ?_
  refine a_cV_Si (r := p0) (ci := 9) (as := [.int 4]) (st := [.ref p1]) dX8_readRate_29 (c_X8_number l g q5 N p0 4) rfl km_X8_number (hm_X8_number) rfl (by decide) rfl (fun _ ee => g_X8_number ee) w_methodLink_RainCover_Tape_47 w_instanceMethod_RainCover_Tape_number__I_I w_selects_RainCover_Tape_RainCover_Tape_number__I_I_RainCover_Tape_number__I_I ⟨⟨by decide, by decide⟩, ⟨by decide, by decide⟩⟩ (Nat.le_of_ble_eq_true rfl) (fun q6 => ?_)
  refine a_puti kc11 2 dX8_readRate_32 (by decide) rfl w_fieldLink_RainCover_Tape_56 rfl rfl (fun h7 => ?_)
  refine a_aload_n dX8_readRate_35 rfl 0 rfl ?_
  refine a_ldcS 2 dX8_readRate_36 (by decide) ⟨rfl, rfl⟩ ?_
  refine a_cV_Sv (r := p0) (ci := 9) (as := [.ref (9100 + 2)]) (st := []) dX8_readRate_38 (c_X8_word l g h7 N p0 (9100 + 2)) rfl km_X8_word (hm_X8_word) rfl (by decide) rfl (fun _ ee => g_X8_word ee) w_methodLink_RainCover_Tape_43 w_instanceMethod_RainCover_Tape_word__Ljava_lang_String__V w_selects_RainCover_Tape_RainCover_Tape_word__Ljava_lang_String__V_RainCover_Tape_word__Ljava_lang_String__V ⟨⟨by decide, by decide⟩, ⟨by decide, by decide⟩⟩ (Nat.le_of_ble_eq_true rfl) (fun q8 => ?_)
  refine a_aload_n dX8_readRate_41 rfl 1 rfl ?_
  refine a_aload_n dX8_readRate_42 rfl 0 rfl ?_
  refine a_iconst (v := 4) dX8_readRate_43 (by decide) ?_
  refine a_cV_Si (r := p0) (ci := 9) (as := [.int 4]) (st := [.ref p1]) dX8_readRate_44 (c_X8_number l g q8 N p0 4) rfl km_X8_number (hm_X8_number) rfl (by decide) rfl (fun _ ee => g_X8_number ee) w_methodLink_RainCover_Tape_47 w_instanceMethod_RainCover_Tape_number__I_I w_selects_RainCover_Tape_RainCover_Tape_number__I_I_RainCover_Tape_number__I_I ⟨⟨by decide, by decide⟩, ⟨by decide, by decide⟩⟩ (Nat.le_of_ble_eq_true rfl) (fun q9 => ?_)
  refine a_puti kc11 3 dX8_readRate_47 (by decide) rfl w_fieldLink_RainCover_Tape_61 rfl rfl (fun h10 => ?_)
  refine a_aload_n dX8_readRate_50 rfl 0 rfl ?_
  refine a_ldcS 3 dX8_readRate_51 (by decide) ⟨rfl, rfl⟩ ?_
  refine a_cV_Sv (r := p0) (ci := 9) (as := [.ref (9100 + 3)]) (st := []) dX8_readRate_53 (c_X8_word l g h10 N p0 (9100 + 3)) rfl km_X8_word (hm_X8_word) rfl (by decide) rfl (fun _ ee => g_X8_word ee) w_methodLink_RainCover_Tape_43 w_instanceMethod_RainCover_Tape_word__Ljava_lang_String__V w_selects_RainCover_Tape_RainCover_Tape_word__Ljava_lang_String__V_RainCover_Tape_word__Ljava_lang_String__V ⟨⟨by decide, by decide⟩, ⟨by decide, by decide⟩⟩ (Nat.le_of_ble_eq_true rfl) (fun q11 => ?_)
  refine a_aload_n dX8_readRate_56 rfl 0 rfl ?_
  refine a_aload_n dX8_readRate_57 rfl 1 rfl ?_
  refine a_iconst (v := 0) dX8_readRate_58 (by decide) ?_
  refine a_cV_Sv (r := p0) (ci := 9) (as := [.ref p1, .int 0]) (st := []) dX8_readRate_59 (c_X8_readSpan l g q11 N p0 p1 0) rfl km_X8_readSpan (hm_X8_readSpan) rfl (by decide) rfl (fun _ ee => g_X8_readSpan ee) w_methodLink_RainCover_Tape_66 w_instanceMethod_RainCover_Tape_readSpan__LRainCover_Term_I_V w_selects_RainCover_Tape_RainCover_Tape_readSpan__LRainCover_Term_I_V_RainCover_Tape_readSpan__LRainCover_Term_I_V ⟨⟨by decide, by decide⟩, ⟨by decide, by decide⟩⟩ (Nat.le_of_ble_eq_true rfl) (fun q12 => ?_)
  refine a_aload_n dX8_readRate_62 rfl 0 rfl ?_
  refine a_ldcS 5 dX8_readRate_63 (by decide) ⟨rfl, rfl⟩ ?_
  refine a_cV_Sv (r := p0) (ci := 9) (as := [.ref (9100 + 5)]) (st := []) dX8_readRate_65 (c_X8_word l g q12 N p0 (9100 + 5)) rfl km_X8_word (hm_X8_word) rfl (by decide) rfl (fun _ ee => g_X8_word ee) w_methodLink_RainCover_Tape_43 w_instanceMethod_RainCover_Tape_word__Ljava_lang_String__V w_selects_RainCover_Tape_RainCover_Tape_word__Ljava_lang_String__V_RainCover_Tape_word__Ljava_lang_String__V ⟨⟨by decide, by decide⟩, ⟨by decide, by decide⟩⟩ (Nat.le_of_ble_eq_true rfl) (fun q13 => ?_)
  refine a_aload_n dX8_readRate_68 rfl 1 rfl ?_
  refine a_aload_n dX8_readRate_69 rfl 0 rfl ?_
  refine a_iconst (v := 4) dX8_readRate_70 (by decide) ?_
  refine a_cV_Si (r := p0) (ci := 9) (as := [.int 4]) (st := [.ref p1]) dX8_readRate_71 (c_X8_number l g q13 N p0 4) rfl km_X8_number (hm_X8_number) rfl (by decide) rfl (fun _ ee => g_X8_number ee) w_methodLink_RainCover_Tape_47 w_instanceMethod_RainCover_Tape_number__I_I w_selects_RainCover_Tape_RainCover_Tape_number__I_I_RainCover_Tape_number__I_I ⟨⟨by decide, by decide⟩, ⟨by decide, by decide⟩⟩ (Nat.le_of_ble_eq_true rfl) (fun q14 => ?_)
  refine a_puti kc11 4 dX8_readRate_74 (by decide) rfl w_fieldLink_RainCover_Tape_72 rfl rfl (fun h15 => ?_)
  refine a_aload_n dX8_readRate_77 rfl 1 rfl ?_
  refine a_getr kc11 6 dX8_readRate_78 (by decide) rfl w_fieldLink_RainCover_Tape_75 (fun v16 => ?_)
  refine a_iconst (v := 0) dX8_readRate_81 (by decide) ?_
  refine a_iconst (v := 0) dX8_readRate_82 (by decide) ?_
  refine a_iast dX8_readRate_83 (fun h17 => ?_)
  refine a_aload_n dX8_readRate_84 rfl 1 rfl ?_
  refine a_iconst (v := 1) dX8_readRate_85 (by decide) ?_
  refine a_puti kc11 5 dX8_readRate_86 (by decide) rfl w_fieldLink_RainCover_Tape_79 rfl rfl (fun h18 => ?_)
  exact a_vret dX8_readRate_89 rfl rfl (by decide) (by decide)
theorem dX8_readCase_0 : decode cX8_readCase 0 = .ok (.aload_n 0, 1) := by decide +kernel
theorem dX8_readCase_1 : decode cX8_readCase 1 = .ok (.invokevirtual 27, 3) := by decide +kernel
theorem dX8_readCase_4 : decode cX8_readCase 4 = .ok (.lookupswitch 102 #[(100, 58), (103, 80), (115, 36)], 36) := by decide +kernel
theorem dX8_readCase_40 : decode cX8_readCase 40 = .ok (.aload_n 1, 1) := by decide +kernel
theorem dX8_readCase_41 : decode cX8_readCase 41 = .ok (.getfield 75, 3) := by decide +kernel
theorem dX8_readCase_44 : decode cX8_readCase 44 = .ok (.iload_n 2, 1) := by decide +kernel
theorem dX8_readCase_45 : decode cX8_readCase 45 = .ok (.iconst 0, 1) := by decide +kernel
theorem dX8_readCase_46 : decode cX8_readCase 46 = .ok (.iastore, 1) := by decide +kernel
theorem dX8_readCase_47 : decode cX8_readCase 47 = .ok (.aload_n 0, 1) := by decide +kernel
theorem dX8_readCase_48 : decode cX8_readCase 48 = .ok (.ldc 91, 2) := by decide +kernel
theorem dX8_readCase_50 : decode cX8_readCase 50 = .ok (.invokevirtual 43, 3) := by decide +kernel
theorem dX8_readCase_53 : decode cX8_readCase 53 = .ok (.aload_n 0, 1) := by decide +kernel
theorem dX8_readCase_54 : decode cX8_readCase 54 = .ok (.aload_n 1, 1) := by decide +kernel
theorem dX8_readCase_55 : decode cX8_readCase 55 = .ok (.iload_n 2, 1) := by decide +kernel
theorem dX8_readCase_56 : decode cX8_readCase 56 = .ok (.invokevirtual 66, 3) := by decide +kernel
theorem dX8_readCase_59 : decode cX8_readCase 59 = .ok (.goto 83, 3) := by decide +kernel
theorem dX8_readCase_62 : decode cX8_readCase 62 = .ok (.aload_n 1, 1) := by decide +kernel
theorem dX8_readCase_63 : decode cX8_readCase 63 = .ok (.getfield 75, 3) := by decide +kernel
theorem dX8_readCase_66 : decode cX8_readCase 66 = .ok (.iload_n 2, 1) := by decide +kernel
theorem dX8_readCase_67 : decode cX8_readCase 67 = .ok (.iconst 1, 1) := by decide +kernel
theorem dX8_readCase_68 : decode cX8_readCase 68 = .ok (.iastore, 1) := by decide +kernel
theorem dX8_readCase_69 : decode cX8_readCase 69 = .ok (.aload_n 0, 1) := by decide +kernel
theorem dX8_readCase_70 : decode cX8_readCase 70 = .ok (.ldc 93, 2) := by decide +kernel
theorem dX8_readCase_72 : decode cX8_readCase 72 = .ok (.invokevirtual 43, 3) := by decide +kernel
theorem dX8_readCase_75 : decode cX8_readCase 75 = .ok (.aload_n 0, 1) := by decide +kernel
theorem dX8_readCase_76 : decode cX8_readCase 76 = .ok (.aload_n 1, 1) := by decide +kernel
theorem dX8_readCase_77 : decode cX8_readCase 77 = .ok (.iload_n 2, 1) := by decide +kernel
theorem dX8_readCase_78 : decode cX8_readCase 78 = .ok (.invokevirtual 66, 3) := by decide +kernel
theorem dX8_readCase_81 : decode cX8_readCase 81 = .ok (.goto 61, 3) := by decide +kernel
theorem dX8_readCase_84 : decode cX8_readCase 84 = .ok (.aload_n 1, 1) := by decide +kernel
theorem dX8_readCase_85 : decode cX8_readCase 85 = .ok (.getfield 75, 3) := by decide +kernel
theorem dX8_readCase_88 : decode cX8_readCase 88 = .ok (.iload_n 2, 1) := by decide +kernel
theorem dX8_readCase_89 : decode cX8_readCase 89 = .ok (.iconst 2, 1) := by decide +kernel
theorem dX8_readCase_90 : decode cX8_readCase 90 = .ok (.iastore, 1) := by decide +kernel
theorem dX8_readCase_91 : decode cX8_readCase 91 = .ok (.aload_n 0, 1) := by decide +kernel
theorem dX8_readCase_92 : decode cX8_readCase 92 = .ok (.ldc 95, 2) := by decide +kernel
theorem dX8_readCase_94 : decode cX8_readCase 94 = .ok (.invokevirtual 43, 3) := by decide +kernel
theorem dX8_readCase_97 : decode cX8_readCase 97 = .ok (.aload_n 0, 1) := by decide +kernel
theorem dX8_readCase_98 : decode cX8_readCase 98 = .ok (.aload_n 1, 1) := by decide +kernel
theorem dX8_readCase_99 : decode cX8_readCase 99 = .ok (.iload_n 2, 1) := by decide +kernel
theorem dX8_readCase_100 : decode cX8_readCase 100 = .ok (.invokevirtual 66, 3) := by decide +kernel
theorem dX8_readCase_103 : decode cX8_readCase 103 = .ok (.goto 39, 3) := by decide +kernel
theorem dX8_readCase_106 : decode cX8_readCase 106 = .ok (.aload_n 1, 1) := by decide +kernel
theorem dX8_readCase_107 : decode cX8_readCase 107 = .ok (.getfield 75, 3) := by decide +kernel
theorem dX8_readCase_110 : decode cX8_readCase 110 = .ok (.iload_n 2, 1) := by decide +kernel
theorem dX8_readCase_111 : decode cX8_readCase 111 = .ok (.iconst 3, 1) := by decide +kernel
theorem dX8_readCase_112 : decode cX8_readCase 112 = .ok (.iastore, 1) := by decide +kernel
theorem dX8_readCase_113 : decode cX8_readCase 113 = .ok (.aload_n 0, 1) := by decide +kernel
theorem dX8_readCase_114 : decode cX8_readCase 114 = .ok (.ldc 97, 2) := by decide +kernel
theorem dX8_readCase_116 : decode cX8_readCase 116 = .ok (.invokevirtual 43, 3) := by decide +kernel
theorem dX8_readCase_119 : decode cX8_readCase 119 = .ok (.aload_n 1, 1) := by decide +kernel
theorem dX8_readCase_120 : decode cX8_readCase 120 = .ok (.getfield 99, 3) := by decide +kernel
theorem dX8_readCase_123 : decode cX8_readCase 123 = .ok (.iload_n 2, 1) := by decide +kernel
theorem dX8_readCase_124 : decode cX8_readCase 124 = .ok (.aload_n 0, 1) := by decide +kernel
theorem dX8_readCase_125 : decode cX8_readCase 125 = .ok (.iconst 2, 1) := by decide +kernel
theorem dX8_readCase_126 : decode cX8_readCase 126 = .ok (.invokevirtual 47, 3) := by decide +kernel
theorem dX8_readCase_129 : decode cX8_readCase 129 = .ok (.iastore, 1) := by decide +kernel
theorem dX8_readCase_130 : decode cX8_readCase 130 = .ok (.aload_n 1, 1) := by decide +kernel
theorem dX8_readCase_131 : decode cX8_readCase 131 = .ok (.getfield 102, 3) := by decide +kernel
theorem dX8_readCase_134 : decode cX8_readCase 134 = .ok (.iload_n 2, 1) := by decide +kernel
theorem dX8_readCase_135 : decode cX8_readCase 135 = .ok (.aload_n 1, 1) := by decide +kernel
theorem dX8_readCase_136 : decode cX8_readCase 136 = .ok (.getfield 99, 3) := by decide +kernel
theorem dX8_readCase_139 : decode cX8_readCase 139 = .ok (.iload_n 2, 1) := by decide +kernel
theorem dX8_readCase_140 : decode cX8_readCase 140 = .ok (.iaload, 1) := by decide +kernel
theorem dX8_readCase_141 : decode cX8_readCase 141 = .ok (.iastore, 1) := by decide +kernel
theorem dX8_readCase_142 : decode cX8_readCase 142 = .ok (.aload_n 0, 1) := by decide +kernel
theorem dX8_readCase_143 : decode cX8_readCase 143 = .ok (.ldc 105, 2) := by decide +kernel
theorem dX8_readCase_145 : decode cX8_readCase 145 = .ok (.invokevirtual 43, 3) := by decide +kernel
theorem dX8_readCase_148 : decode cX8_readCase 148 = .ok (.aload_n 1, 1) := by decide +kernel
theorem dX8_readCase_149 : decode cX8_readCase 149 = .ok (.getfield 107, 3) := by decide +kernel
theorem dX8_readCase_152 : decode cX8_readCase 152 = .ok (.iload_n 2, 1) := by decide +kernel
theorem dX8_readCase_153 : decode cX8_readCase 153 = .ok (.aload_n 0, 1) := by decide +kernel
theorem dX8_readCase_154 : decode cX8_readCase 154 = .ok (.invokevirtual 27, 3) := by decide +kernel
theorem dX8_readCase_157 : decode cX8_readCase 157 = .ok (.bipush 62, 2) := by decide +kernel
theorem dX8_readCase_159 : decode cX8_readCase 159 = .ok (.if_icmp .ne 7, 3) := by decide +kernel
theorem dX8_readCase_162 : decode cX8_readCase 162 = .ok (.iconst 1, 1) := by decide +kernel
theorem dX8_readCase_163 : decode cX8_readCase 163 = .ok (.goto 4, 3) := by decide +kernel
theorem dX8_readCase_166 : decode cX8_readCase 166 = .ok (.iconst 0, 1) := by decide +kernel
theorem dX8_readCase_167 : decode cX8_readCase 167 = .ok (.bastore, 1) := by decide +kernel
theorem dX8_readCase_168 : decode cX8_readCase 168 = .ok (.aload_n 0, 1) := by decide +kernel
theorem dX8_readCase_169 : decode cX8_readCase 169 = .ok (.aload_n 1, 1) := by decide +kernel
theorem dX8_readCase_170 : decode cX8_readCase 170 = .ok (.getfield 107, 3) := by decide +kernel
theorem dX8_readCase_173 : decode cX8_readCase 173 = .ok (.iload_n 2, 1) := by decide +kernel
theorem dX8_readCase_174 : decode cX8_readCase 174 = .ok (.baload, 1) := by decide +kernel
theorem dX8_readCase_175 : decode cX8_readCase 175 = .ok (.ifCond .eq 8, 3) := by decide +kernel
theorem dX8_readCase_178 : decode cX8_readCase 178 = .ok (.ldc 111, 2) := by decide +kernel
theorem dX8_readCase_180 : decode cX8_readCase 180 = .ok (.goto 5, 3) := by decide +kernel
theorem dX8_readCase_183 : decode cX8_readCase 183 = .ok (.ldc 113, 2) := by decide +kernel
theorem dX8_readCase_185 : decode cX8_readCase 185 = .ok (.invokevirtual 43, 3) := by decide +kernel
theorem dX8_readCase_188 : decode cX8_readCase 188 = .ok (.aload_n 0, 1) := by decide +kernel
theorem dX8_readCase_189 : decode cX8_readCase 189 = .ok (.ldc 105, 2) := by decide +kernel
theorem dX8_readCase_191 : decode cX8_readCase 191 = .ok (.invokevirtual 43, 3) := by decide +kernel
theorem dX8_readCase_194 : decode cX8_readCase 194 = .ok (.aload_n 1, 1) := by decide +kernel
theorem dX8_readCase_195 : decode cX8_readCase 195 = .ok (.getfield 115, 3) := by decide +kernel
theorem dX8_readCase_198 : decode cX8_readCase 198 = .ok (.iload_n 2, 1) := by decide +kernel
theorem dX8_readCase_199 : decode cX8_readCase 199 = .ok (.aload_n 0, 1) := by decide +kernel
theorem dX8_readCase_200 : decode cX8_readCase 200 = .ok (.iconst 4, 1) := by decide +kernel
theorem dX8_readCase_201 : decode cX8_readCase 201 = .ok (.invokevirtual 47, 3) := by decide +kernel
theorem dX8_readCase_204 : decode cX8_readCase 204 = .ok (.iastore, 1) := by decide +kernel
theorem dX8_readCase_205 : decode cX8_readCase 205 = .ok (.return_, 1) := by decide +kernel
abbrev M_X8_readCase : MI := (RX8, cX8_readCase, 3, none, ({ frames := 6, cells := 0, slots := 0, locals := 129 } : Room), 0, 0, false)
def f_X8_readCase_b185 (N : Nat) (h : AH) (x0 : Nat) (x1 : Nat) (x2 : Int32) (s3 : Nat) (s4 : Nat) : Option AH := (f_X8_word h N s4 s3).bind fun q35 => (f_X8_word q35 N x0 (9100 + 12)).bind fun q36 => (xgr q36 x1 11 10).bind fun v37 => (f_X8_number q36 N x0 4).bind fun q38 => (xis q38.2 v37 x2 q38.1).bind fun h39 => some h39
def f_X8_readCase_b167 (N : Nat) (h : AH) (x0 : Nat) (x1 : Nat) (x2 : Int32) (s3 : Int32) (s4 : Int32) (s5 : Nat) : Option AH := (xbs h s5 s4 s3).bind fun h31 => (xgr h31 x1 11 9).bind fun v32 => (xba h31 v32 x2).bind fun v33 => (if v33 = 0 then f_X8_readCase_b185 N h31 x0 x1 x2 (9100 + 14) x0 else f_X8_readCase_b185 N h31 x0 x1 x2 (9100 + 13) x0)
def f_X8_readCase_b142 (N : Nat) (h : AH) (x0 : Nat) (x1 : Nat) (x2 : Int32) : Option AH := (f_X8_word h N x0 (9100 + 12)).bind fun q27 => (xgr q27 x1 11 9).bind fun v28 => (f_X8_next q27 x0).bind fun v29 => (if v29 = 62 then f_X8_readCase_b167 N q27 x0 x1 x2 1 x2 v28 else f_X8_readCase_b167 N q27 x0 x1 x2 0 x2 v28)
def f_X8_readCase (h0 : AH) (N : Nat) (p0 : Nat) (p1 : Nat) (p2 : Int32) : Option AH := if kd h0 p0 = 9 + 1 then (f_X8_next h0 p0).bind fun v1 => (if v1 = 100 then (xgr h0 p1 11 6).bind fun v3 => (xis h0 v3 p2 1).bind fun h4 => (f_X8_word h4 N p0 (9100 + 9)).bind fun q5 => (f_X8_readSpan q5 N p0 p1 p2).bind fun q6 => f_X8_readCase_b142 N q6 p0 p1 p2 else (if v1 = 103 then (xgr h0 p1 11 6).bind fun v8 => (xis h0 v8 p2 2).bind fun h9 => (f_X8_word h9 N p0 (9100 + 10)).bind fun q10 => (f_X8_readSpan q10 N p0 p1 p2).bind fun q11 => f_X8_readCase_b142 N q11 p0 p1 p2 else (if v1 = 115 then (xgr h0 p1 11 6).bind fun v13 => (xis h0 v13 p2 0).bind fun h14 => (f_X8_word h14 N p0 (9100 + 8)).bind fun q15 => (f_X8_readSpan q15 N p0 p1 p2).bind fun q16 => f_X8_readCase_b142 N q16 p0 p1 p2 else (xgr h0 p1 11 6).bind fun v17 => (xis h0 v17 p2 3).bind fun h18 => (f_X8_word h18 N p0 (9100 + 11)).bind fun q19 => (xgr q19 p1 11 7).bind fun v20 => (f_X8_number q19 N p0 2).bind fun q21 => (xis q21.2 v20 p2 q21.1).bind fun h22 => (xgr h22 p1 11 8).bind fun v23 => (xgr h22 p1 11 7).bind fun v24 => (xia h22 v24 p2).bind fun v25 => (xis h22 v23 p2 v25).bind fun h26 => f_X8_readCase_b142 N h26 p0 p1 p2))) else none
theorem g_X8_readCase {h0 : AH} {N : Nat} {p0 : Nat} {p1 : Nat} {p2 : Int32} {x : AH} (e : f_X8_readCase h0 N p0 p1 p2 = some x) : kd h0 p0 = 9 + 1 := by
  unfold f_X8_readCase at e
  by_cases hk : kd h0 p0 = 9 + 1
  · exact hk
  · rw [if_neg hk] at e
    cases e
theorem km_X8_readCase : KM yX8_readCase M_X8_readCase 2 := ⟨in_tb 579 (by decide +kernel) rfl, in_tb 6 (by decide +kernel) rfl, by decide +kernel, rfl, rfl⟩
theorem hm_X8_readCase : M_X8_readCase.2.2.2.2.2.1 = 0 ∧ M_X8_readCase.2.2.2.2.2.2.1 = 0 := ⟨rfl, rfl⟩
section
variable {l : Launch} {g : GG}
set_option maxRecDepth 100000 in
set_option maxHeartbeats 4000000 in
theorem t_X8_readCase_b185 (h0 : AH) (N : Nat) (h : AH) (x0 : Nat) (x1 : Nat) (x2 : Int32) (s3 : Nat) (s4 : Nat) : AO l g M_X8_readCase false h0 185 [(0, .ref x0), (1, .ref x1), (2, .int x2)] [.ref s3, .ref s4] h 0 0 rSv (f_X8_readCase_b185 N  h x0 x1 x2 s3 s4) := by
  unfold f_X8_readCase_b185
  refine a_cV_Sv (r := s4) (ci := 9) (as := [.ref s3]) (st := []) dX8_readCase_185 (c_X8_word l g h N s4 s3) rfl km_X8_word (hm_X8_word) rfl (by decide) rfl (fun _ ee => g_X8_word ee) w_methodLink_RainCover_Tape_43 w_instanceMethod_RainCover_Tape_word__Ljava_lang_String__V w_selects_RainCover_Tape_RainCover_Tape_word__Ljava_lang_String__V_RainCover_Tape_word__Ljava_lang_String__V ⟨⟨by decide, by decide⟩, ⟨by decide, by decide⟩⟩ (Nat.le_of_ble_eq_true rfl) (fun q35 => ?_)
  refine a_aload_n dX8_readCase_188 rfl 0 rfl ?_
  refine a_ldcS 12 dX8_readCase_189 (by decide) ⟨rfl, rfl⟩ ?_
  refine a_cV_Sv (r := x0) (ci := 9) (as := [.ref (9100 + 12)]) (st := []) dX8_readCase_191 (c_X8_word l g q35 N x0 (9100 + 12)) rfl km_X8_word (hm_X8_word) rfl (by decide) rfl (fun _ ee => g_X8_word ee) w_methodLink_RainCover_Tape_43 w_instanceMethod_RainCover_Tape_word__Ljava_lang_String__V w_selects_RainCover_Tape_RainCover_Tape_word__Ljava_lang_String__V_RainCover_Tape_word__Ljava_lang_String__V ⟨⟨by decide, by decide⟩, ⟨by decide, by decide⟩⟩ (Nat.le_of_ble_eq_true rfl) (fun q36 => ?_)
  refine a_aload_n dX8_readCase_194 rfl 1 rfl ?_
  refine a_getr kc11 10 dX8_readCase_195 (by decide) rfl w_fieldLink_RainCover_Tape_115 (fun v37 => ?_)
  refine a_iload_n dX8_readCase_198 rfl 2 rfl ?_
  refine a_aload_n dX8_readCase_199 rfl 0 rfl ?_
  refine a_iconst (v := 4) dX8_readCase_200 (by decide) ?_
  refine a_cV_Si (r := x0) (ci := 9) (as := [.int 4]) (st := [.int x2, .ref v37]) dX8_readCase_201 (c_X8_number l g q36 N x0 4) rfl km_X8_number (hm_X8_number) rfl (by decide) rfl (fun _ ee => g_X8_number ee) w_methodLink_RainCover_Tape_47 w_instanceMethod_RainCover_Tape_number__I_I w_selects_RainCover_Tape_RainCover_Tape_number__I_I_RainCover_Tape_number__I_I ⟨⟨by decide, by decide⟩, ⟨by decide, by decide⟩⟩ (Nat.le_of_ble_eq_true rfl) (fun q38 => ?_)
  refine a_iast dX8_readCase_204 (fun h39 => ?_)
  exact a_vret dX8_readCase_205 rfl rfl (by decide) (by decide)
set_option maxRecDepth 100000 in
set_option maxHeartbeats 4000000 in
theorem t_X8_readCase_b167 (h0 : AH) (N : Nat) (h : AH) (x0 : Nat) (x1 : Nat) (x2 : Int32) (s3 : Int32) (s4 : Int32) (s5 : Nat) : AO l g M_X8_readCase false h0 167 [(0, .ref x0), (1, .ref x1), (2, .int x2)] [.int s3, .int s4, .ref s5] h 0 0 rSv (f_X8_readCase_b167 N  h x0 x1 x2 s3 s4 s5) := by
  unfold f_X8_readCase_b167
  refine a_bast dX8_readCase_167 (fun h31 => ?_)
  refine a_aload_n dX8_readCase_168 rfl 0 rfl ?_
  refine a_aload_n dX8_readCase_169 rfl 1 rfl ?_
  refine a_getr kc11 9 dX8_readCase_170 (by decide) rfl w_fieldLink_RainCover_Tape_107 (fun v32 => ?_)
  refine a_iload_n dX8_readCase_173 rfl 2 rfl ?_
  refine a_bald dX8_readCase_174 (fun v33 => ?_)
  refine a_if_eq 183 dX8_readCase_175 (by decide) (fun c34 => ?_) (fun c34 => ?_)
  · refine a_ldcS 14 dX8_readCase_183 (by decide) ⟨rfl, rfl⟩ ?_
    exact t_X8_readCase_b185 h0 N h31 x0 x1 x2 (9100 + 14) x0
  · refine a_ldcS 13 dX8_readCase_178 (by decide) ⟨rfl, rfl⟩ ?_
    refine a_goto 185 dX8_readCase_180 (by decide) ?_
    exact t_X8_readCase_b185 h0 N h31 x0 x1 x2 (9100 + 13) x0
set_option maxRecDepth 100000 in
set_option maxHeartbeats 4000000 in
theorem t_X8_readCase_b142 (h0 : AH) (N : Nat) (h : AH) (x0 : Nat) (x1 : Nat) (x2 : Int32) : AO l g M_X8_readCase false h0 142 [(0, .ref x0), (1, .ref x1), (2, .int x2)] [] h 0 0 rSv (f_X8_readCase_b142 N  h x0 x1 x2) := by
  unfold f_X8_readCase_b142
  refine a_aload_n dX8_readCase_142 rfl 0 rfl ?_
  refine a_ldcS 12 dX8_readCase_143 (by decide) ⟨rfl, rfl⟩ ?_
  refine a_cV_Sv (r := x0) (ci := 9) (as := [.ref (9100 + 12)]) (st := []) dX8_readCase_145 (c_X8_word l g h N x0 (9100 + 12)) rfl km_X8_word (hm_X8_word) rfl (by decide) rfl (fun _ ee => g_X8_word ee) w_methodLink_RainCover_Tape_43 w_instanceMethod_RainCover_Tape_word__Ljava_lang_String__V w_selects_RainCover_Tape_RainCover_Tape_word__Ljava_lang_String__V_RainCover_Tape_word__Ljava_lang_String__V ⟨⟨by decide, by decide⟩, ⟨by decide, by decide⟩⟩ (Nat.le_of_ble_eq_true rfl) (fun q27 => ?_)
  refine a_aload_n dX8_readCase_148 rfl 1 rfl ?_
  refine a_getr kc11 9 dX8_readCase_149 (by decide) rfl w_fieldLink_RainCover_Tape_107 (fun v28 => ?_)
  refine a_iload_n dX8_readCase_152 rfl 2 rfl ?_
  refine a_aload_n dX8_readCase_153 rfl 0 rfl ?_
  refine a_cV_Pi (r := x0) (ci := 9) (as := []) (st := [.int x2, .ref v28]) dX8_readCase_154 (c_X8_next l g q27 x0) rfl km_X8_next (hm_X8_next) rfl (by decide) rfl (fun _ ee => g_X8_next ee) w_methodLink_RainCover_Tape_27 w_instanceMethod_RainCover_Tape_next___I w_selects_RainCover_Tape_RainCover_Tape_next___I_RainCover_Tape_next___I ⟨⟨by decide, by decide⟩, ⟨by decide, by decide⟩⟩ (Nat.le_of_ble_eq_true rfl) (fun v29 => ?_)
  refine a_bipush (v := 62) dX8_readCase_157 (by decide) ?_
  refine a_icmp_ne 166 dX8_readCase_159 (by decide) (fun c30 => ?_) (fun c30 => ?_)
  · refine a_iconst (v := 1) dX8_readCase_162 (by decide) ?_
    refine a_goto 167 dX8_readCase_163 (by decide) ?_
    exact t_X8_readCase_b167 h0 N q27 x0 x1 x2 1 x2 v28
  · refine a_iconst (v := 0) dX8_readCase_166 (by decide) ?_
    exact t_X8_readCase_b167 h0 N q27 x0 x1 x2 0 x2 v28
end
set_option maxRecDepth 100000 in
set_option maxHeartbeats 4000000 in
theorem c_X8_readCase (l : Launch) (g : GG) (h0 : AH) (N : Nat) (p0 : Nat) (p1 : Nat) (p2 : Int32) : CN l g yX8_readCase M_X8_readCase false [.ref p0, .ref p1, .int p2] h0 rSv (f_X8_readCase h0 N p0 p1 p2) := by
  refine CN.of (by decide) rfl (fun hh => by first | rfl | cases hh) (Nat.le_of_ble_eq_true rfl) ?_
  unfold f_X8_readCase
  refine a_gd (fun hkd => ?_)
  refine a_aload_n dX8_readCase_0 rfl 0 rfl ?_
  refine a_cV_Pi (r := p0) (ci := 9) (as := []) (st := []) dX8_readCase_1 (c_X8_next l g h0 p0) rfl km_X8_next (hm_X8_next) rfl (by decide) rfl (fun _ ee => g_X8_next ee) w_methodLink_RainCover_Tape_27 w_instanceMethod_RainCover_Tape_next___I w_selects_RainCover_Tape_RainCover_Tape_next___I_RainCover_Tape_next___I ⟨⟨by decide, by decide⟩, ⟨by decide, by decide⟩⟩ (Nat.le_of_ble_eq_true rfl) (fun v1 => ?_)
  refine a_swl (v := 100) 62 dX8_readCase_4 (by decide) (by decide) (fun c2 => ?_) (fun c2 => ?_)
  · refine a_aload_n dX8_readCase_62 rfl 1 rfl ?_
    refine a_getr kc11 6 dX8_readCase_63 (by decide) rfl w_fieldLink_RainCover_Tape_75 (fun v3 => ?_)
    refine a_iload_n dX8_readCase_66 rfl 2 rfl ?_
    refine a_iconst (v := 1) dX8_readCase_67 (by decide) ?_
    refine a_iast dX8_readCase_68 (fun h4 => ?_)
    refine a_aload_n dX8_readCase_69 rfl 0 rfl ?_
    refine a_ldcS 9 dX8_readCase_70 (by decide) ⟨rfl, rfl⟩ ?_
    refine a_cV_Sv (r := p0) (ci := 9) (as := [.ref (9100 + 9)]) (st := []) dX8_readCase_72 (c_X8_word l g h4 N p0 (9100 + 9)) rfl km_X8_word (hm_X8_word) rfl (by decide) rfl (fun _ ee => g_X8_word ee) w_methodLink_RainCover_Tape_43 w_instanceMethod_RainCover_Tape_word__Ljava_lang_String__V w_selects_RainCover_Tape_RainCover_Tape_word__Ljava_lang_String__V_RainCover_Tape_word__Ljava_lang_String__V ⟨⟨by decide, by decide⟩, ⟨by decide, by decide⟩⟩ (Nat.le_of_ble_eq_true rfl) (fun q5 => ?_)
    refine a_aload_n dX8_readCase_75 rfl 0 rfl ?_
    refine a_aload_n dX8_readCase_76 rfl 1 rfl ?_
    refine a_iload_n dX8_readCase_77 rfl 2 rfl ?_
    refine a_cV_Sv (r := p0) (ci := 9) (as := [.ref p1, .int p2]) (st := []) dX8_readCase_78 (c_X8_readSpan l g q5 N p0 p1 p2) rfl km_X8_readSpan (hm_X8_readSpan) rfl (by decide) rfl (fun _ ee => g_X8_readSpan ee) w_methodLink_RainCover_Tape_66 w_instanceMethod_RainCover_Tape_readSpan__LRainCover_Term_I_V w_selects_RainCover_Tape_RainCover_Tape_readSpan__LRainCover_Term_I_V_RainCover_Tape_readSpan__LRainCover_Term_I_V ⟨⟨by decide, by decide⟩, ⟨by decide, by decide⟩⟩ (Nat.le_of_ble_eq_true rfl) (fun q6 => ?_)
    refine a_goto 142 dX8_readCase_81 (by decide) ?_
    exact t_X8_readCase_b142 h0 N q6 p0 p1 p2
  refine a_swl (v := 103) 84 dX8_readCase_4 (by decide) (by decide) (fun c7 => ?_) (fun c7 => ?_)
  · refine a_aload_n dX8_readCase_84 rfl 1 rfl ?_
    refine a_getr kc11 6 dX8_readCase_85 (by decide) rfl w_fieldLink_RainCover_Tape_75 (fun v8 => ?_)
    refine a_iload_n dX8_readCase_88 rfl 2 rfl ?_
    refine a_iconst (v := 2) dX8_readCase_89 (by decide) ?_
    refine a_iast dX8_readCase_90 (fun h9 => ?_)
    refine a_aload_n dX8_readCase_91 rfl 0 rfl ?_
    refine a_ldcS 10 dX8_readCase_92 (by decide) ⟨rfl, rfl⟩ ?_
    refine a_cV_Sv (r := p0) (ci := 9) (as := [.ref (9100 + 10)]) (st := []) dX8_readCase_94 (c_X8_word l g h9 N p0 (9100 + 10)) rfl km_X8_word (hm_X8_word) rfl (by decide) rfl (fun _ ee => g_X8_word ee) w_methodLink_RainCover_Tape_43 w_instanceMethod_RainCover_Tape_word__Ljava_lang_String__V w_selects_RainCover_Tape_RainCover_Tape_word__Ljava_lang_String__V_RainCover_Tape_word__Ljava_lang_String__V ⟨⟨by decide, by decide⟩, ⟨by decide, by decide⟩⟩ (Nat.le_of_ble_eq_true rfl) (fun q10 => ?_)
    refine a_aload_n dX8_readCase_97 rfl 0 rfl ?_
    refine a_aload_n dX8_readCase_98 rfl 1 rfl ?_
    refine a_iload_n dX8_readCase_99 rfl 2 rfl ?_
    refine a_cV_Sv (r := p0) (ci := 9) (as := [.ref p1, .int p2]) (st := []) dX8_readCase_100 (c_X8_readSpan l g q10 N p0 p1 p2) rfl km_X8_readSpan (hm_X8_readSpan) rfl (by decide) rfl (fun _ ee => g_X8_readSpan ee) w_methodLink_RainCover_Tape_66 w_instanceMethod_RainCover_Tape_readSpan__LRainCover_Term_I_V w_selects_RainCover_Tape_RainCover_Tape_readSpan__LRainCover_Term_I_V_RainCover_Tape_readSpan__LRainCover_Term_I_V ⟨⟨by decide, by decide⟩, ⟨by decide, by decide⟩⟩ (Nat.le_of_ble_eq_true rfl) (fun q11 => ?_)
    refine a_goto 142 dX8_readCase_103 (by decide) ?_
    exact t_X8_readCase_b142 h0 N q11 p0 p1 p2
  refine a_swl (v := 115) 40 dX8_readCase_4 (by decide) (by decide) (fun c12 => ?_) (fun c12 => ?_)
  · refine a_aload_n dX8_readCase_40 rfl 1 rfl ?_
    refine a_getr kc11 6 dX8_readCase_41 (by decide) rfl w_fieldLink_RainCover_Tape_75 (fun v13 => ?_)
    refine a_iload_n dX8_readCase_44 rfl 2 rfl ?_
    refine a_iconst (v := 0) dX8_readCase_45 (by decide) ?_
    refine a_iast dX8_readCase_46 (fun h14 => ?_)
    refine a_aload_n dX8_readCase_47 rfl 0 rfl ?_
    refine a_ldcS 8 dX8_readCase_48 (by decide) ⟨rfl, rfl⟩ ?_
    refine a_cV_Sv (r := p0) (ci := 9) (as := [.ref (9100 + 8)]) (st := []) dX8_readCase_50 (c_X8_word l g h14 N p0 (9100 + 8)) rfl km_X8_word (hm_X8_word) rfl (by decide) rfl (fun _ ee => g_X8_word ee) w_methodLink_RainCover_Tape_43 w_instanceMethod_RainCover_Tape_word__Ljava_lang_String__V w_selects_RainCover_Tape_RainCover_Tape_word__Ljava_lang_String__V_RainCover_Tape_word__Ljava_lang_String__V ⟨⟨by decide, by decide⟩, ⟨by decide, by decide⟩⟩ (Nat.le_of_ble_eq_true rfl) (fun q15 => ?_)
    refine a_aload_n dX8_readCase_53 rfl 0 rfl ?_
    refine a_aload_n dX8_readCase_54 rfl 1 rfl ?_
    refine a_iload_n dX8_readCase_55 rfl 2 rfl ?_
    refine a_cV_Sv (r := p0) (ci := 9) (as := [.ref p1, .int p2]) (st := []) dX8_readCase_56 (c_X8_readSpan l g q15 N p0 p1 p2) rfl km_X8_readSpan (hm_X8_readSpan) rfl (by decide) rfl (fun _ ee => g_X8_readSpan ee) w_methodLink_RainCover_Tape_66 w_instanceMethod_RainCover_Tape_readSpan__LRainCover_Term_I_V w_selects_RainCover_Tape_RainCover_Tape_readSpan__LRainCover_Term_I_V_RainCover_Tape_readSpan__LRainCover_Term_I_V ⟨⟨by decide, by decide⟩, ⟨by decide, by decide⟩⟩ (Nat.le_of_ble_eq_true rfl) (fun q16 => ?_)
    refine a_goto 142 dX8_readCase_59 (by decide) ?_
    exact t_X8_readCase_b142 h0 N q16 p0 p1 p2
  refine a_swld (vs := [100, 103, 115]) 106 dX8_readCase_4 (by decide) (by decide) (List.forall_mem_cons.mpr ⟨c2, List.forall_mem_cons.mpr ⟨c7, List.forall_mem_cons.mpr ⟨c12, fun _ hh => absurd hh List.not_mem_nil⟩⟩⟩) ?_
  refine a_aload_n dX8_readCase_106 rfl 1 rfl ?_
  refine a_getr kc11 6 dX8_readCase_107 (by decide) rfl w_fieldLink_RainCover_Tape_75 (fun v17 => ?_)
  refine a_iload_n dX8_readCase_110 rfl 2 rfl ?_
  refine a_iconst (v := 3) dX8_readCase_111 (by decide) ?_
  refine a_iast dX8_readCase_112 (fun h18 => ?_)
  refine a_aload_n dX8_readCase_113 rfl 0 rfl ?_
  refine a_ldcS 11 dX8_readCase_114 (by decide) ⟨rfl, rfl⟩ ?_
  refine a_cV_Sv (r := p0) (ci := 9) (as := [.ref (9100 + 11)]) (st := []) dX8_readCase_116 (c_X8_word l g h18 N p0 (9100 + 11)) rfl km_X8_word (hm_X8_word) rfl (by decide) rfl (fun _ ee => g_X8_word ee) w_methodLink_RainCover_Tape_43 w_instanceMethod_RainCover_Tape_word__Ljava_lang_String__V w_selects_RainCover_Tape_RainCover_Tape_word__Ljava_lang_String__V_RainCover_Tape_word__Ljava_lang_String__V ⟨⟨by decide, by decide⟩, ⟨by decide, by decide⟩⟩ (Nat.le_of_ble_eq_true rfl) (fun q19 => ?_)
  refine a_aload_n dX8_readCase_119 rfl 1 rfl ?_
  refine a_getr kc11 7 dX8_readCase_120 (by decide) rfl w_fieldLink_RainCover_Tape_99 (fun v20 => ?_)
  refine a_iload_n dX8_readCase_123 rfl 2 rfl ?_
  refine a_aload_n dX8_readCase_124 rfl 0 rfl ?_
  refine a_iconst (v := 2) dX8_readCase_125 (by decide) ?_
  refine a_cV_Si (r := p0) (ci := 9) (as := [.int 2]) (st := [.int p2, .ref v20]) dX8_readCase_126 (c_X8_number l g q19 N p0 2) rfl km_X8_number (hm_X8_number) rfl (by decide) rfl (fun _ ee => g_X8_number ee) w_methodLink_RainCover_Tape_47 w_instanceMethod_RainCover_Tape_number__I_I w_selects_RainCover_Tape_RainCover_Tape_number__I_I_RainCover_Tape_number__I_I ⟨⟨by decide, by decide⟩, ⟨by decide, by decide⟩⟩ (Nat.le_of_ble_eq_true rfl) (fun q21 => ?_)
  refine a_iast dX8_readCase_129 (fun h22 => ?_)
  refine a_aload_n dX8_readCase_130 rfl 1 rfl ?_
  refine a_getr kc11 8 dX8_readCase_131 (by decide) rfl w_fieldLink_RainCover_Tape_102 (fun v23 => ?_)
  refine a_iload_n dX8_readCase_134 rfl 2 rfl ?_
  refine a_aload_n dX8_readCase_135 rfl 1 rfl ?_
  refine a_getr kc11 7 dX8_readCase_136 (by decide) rfl w_fieldLink_RainCover_Tape_99 (fun v24 => ?_)
  refine a_iload_n dX8_readCase_139 rfl 2 rfl ?_
  refine a_iald dX8_readCase_140 (fun v25 => ?_)
  refine a_iast dX8_readCase_141 (fun h26 => ?_)
  exact t_X8_readCase_b142 h0 N h26 p0 p1 p2
theorem dX8_readPay_0 : decode cX8_readPay 0 = .ok (.aload_n 0, 1) := by decide +kernel
theorem dX8_readPay_1 : decode cX8_readPay 1 = .ok (.ldc 82, 2) := by decide +kernel
theorem dX8_readPay_3 : decode cX8_readPay 3 = .ok (.invokevirtual 43, 3) := by decide +kernel
theorem dX8_readPay_6 : decode cX8_readPay 6 = .ok (.aload_n 1, 1) := by decide +kernel
theorem dX8_readPay_7 : decode cX8_readPay 7 = .ok (.aload_n 0, 1) := by decide +kernel
theorem dX8_readPay_8 : decode cX8_readPay 8 = .ok (.iconst 4, 1) := by decide +kernel
theorem dX8_readPay_9 : decode cX8_readPay 9 = .ok (.invokevirtual 47, 3) := by decide +kernel
theorem dX8_readPay_12 : decode cX8_readPay 12 = .ok (.putfield 51, 3) := by decide +kernel
theorem dX8_readPay_15 : decode cX8_readPay 15 = .ok (.aload_n 0, 1) := by decide +kernel
theorem dX8_readPay_16 : decode cX8_readPay 16 = .ok (.ldc 84, 2) := by decide +kernel
theorem dX8_readPay_18 : decode cX8_readPay 18 = .ok (.invokevirtual 43, 3) := by decide +kernel
theorem dX8_readPay_21 : decode cX8_readPay 21 = .ok (.aload_n 0, 1) := by decide +kernel
theorem dX8_readPay_22 : decode cX8_readPay 22 = .ok (.aload_n 1, 1) := by decide +kernel
theorem dX8_readPay_23 : decode cX8_readPay 23 = .ok (.iconst 0, 1) := by decide +kernel
theorem dX8_readPay_24 : decode cX8_readPay 24 = .ok (.invokevirtual 86, 3) := by decide +kernel
theorem dX8_readPay_27 : decode cX8_readPay 27 = .ok (.aload_n 1, 1) := by decide +kernel
theorem dX8_readPay_28 : decode cX8_readPay 28 = .ok (.iconst 1, 1) := by decide +kernel
theorem dX8_readPay_29 : decode cX8_readPay 29 = .ok (.putfield 79, 3) := by decide +kernel
theorem dX8_readPay_32 : decode cX8_readPay 32 = .ok (.iconst 1, 1) := by decide +kernel
theorem dX8_readPay_33 : decode cX8_readPay 33 = .ok (.istore_n 2, 1) := by decide +kernel
theorem dX8_readPay_34 : decode cX8_readPay 34 = .ok (.iload_n 2, 1) := by decide +kernel
theorem dX8_readPay_35 : decode cX8_readPay 35 = .ok (.iconst 4, 1) := by decide +kernel
theorem dX8_readPay_36 : decode cX8_readPay 36 = .ok (.if_icmp .ge 46, 3) := by decide +kernel
theorem dX8_readPay_39 : decode cX8_readPay 39 = .ok (.aload_n 0, 1) := by decide +kernel
theorem dX8_readPay_40 : decode cX8_readPay 40 = .ok (.getfield 20, 3) := by decide +kernel
theorem dX8_readPay_43 : decode cX8_readPay 43 = .ok (.ifCond .ne 39, 3) := by decide +kernel
theorem dX8_readPay_46 : decode cX8_readPay 46 = .ok (.aload_n 0, 1) := by decide +kernel
theorem dX8_readPay_47 : decode cX8_readPay 47 = .ok (.getfield 17, 3) := by decide +kernel
theorem dX8_readPay_50 : decode cX8_readPay 50 = .ok (.aload_n 0, 1) := by decide +kernel
theorem dX8_readPay_51 : decode cX8_readPay 51 = .ok (.getfield 13, 3) := by decide +kernel
theorem dX8_readPay_54 : decode cX8_readPay 54 = .ok (.if_icmp .ge 28, 3) := by decide +kernel
theorem dX8_readPay_57 : decode cX8_readPay 57 = .ok (.aload_n 0, 1) := by decide +kernel
theorem dX8_readPay_58 : decode cX8_readPay 58 = .ok (.ldc 89, 2) := by decide +kernel
theorem dX8_readPay_60 : decode cX8_readPay 60 = .ok (.invokevirtual 43, 3) := by decide +kernel
theorem dX8_readPay_63 : decode cX8_readPay 63 = .ok (.aload_n 0, 1) := by decide +kernel
theorem dX8_readPay_64 : decode cX8_readPay 64 = .ok (.aload_n 1, 1) := by decide +kernel
theorem dX8_readPay_65 : decode cX8_readPay 65 = .ok (.iload_n 2, 1) := by decide +kernel
theorem dX8_readPay_66 : decode cX8_readPay 66 = .ok (.invokevirtual 86, 3) := by decide +kernel
theorem dX8_readPay_69 : decode cX8_readPay 69 = .ok (.aload_n 1, 1) := by decide +kernel
theorem dX8_readPay_70 : decode cX8_readPay 70 = .ok (.iload_n 2, 1) := by decide +kernel
theorem dX8_readPay_71 : decode cX8_readPay 71 = .ok (.iconst 1, 1) := by decide +kernel
theorem dX8_readPay_72 : decode cX8_readPay 72 = .ok (.iadd, 1) := by decide +kernel
theorem dX8_readPay_73 : decode cX8_readPay 73 = .ok (.putfield 79, 3) := by decide +kernel
theorem dX8_readPay_76 : decode cX8_readPay 76 = .ok (.iinc 2 1, 3) := by decide +kernel
theorem dX8_readPay_79 : decode cX8_readPay 79 = .ok (.goto (-45), 3) := by decide +kernel
theorem dX8_readPay_82 : decode cX8_readPay 82 = .ok (.return_, 1) := by decide +kernel
abbrev M_X8_readPay : MI := (RX8, cX8_readPay, 3, none, ({ frames := 7, cells := 0, slots := 0, locals := 151 } : Room), 0, 0, false)
def f_X8_readPay_b34_body (N : Nat) (K34 : AH → Nat → Nat → Int32 → Option AH) (h : AH) (x0 : Nat) (x1 : Nat) (x2 : Int32) : Option AH := (if 4 ≤ x2 then some h else (xgi h x0 9 3).bind fun v8 => (if v8 = 0 then (xgi h x0 9 2).bind fun v10 => (xgi h x0 9 1).bind fun v11 => (if v11 ≤ v10 then some h else (f_X8_word h N x0 (9100 + 15)).bind fun q13 => (f_X8_readCase q13 N x0 x1 x2).bind fun q14 => (xpi q14 x1 11 5 (x2 + 1)).bind fun h15 => K34 h15 x0 x1 (x2 + 1)) else some h))
def f_X8_readPay_b34 (N : Nat) : Nat → AH → Nat → Nat → Int32 → Option AH
  | 0, _, _, _, _ => none
  | n + 1, h, x0, x1, x2 => f_X8_readPay_b34_body N  (f_X8_readPay_b34 N  n) h x0 x1 x2
def f_X8_readPay (h0 : AH) (N : Nat) (p0 : Nat) (p1 : Nat) : Option AH := if kd h0 p0 = 9 + 1 then (f_X8_word h0 N p0 (9100 + 6)).bind fun q1 => (f_X8_number q1 N p0 4).bind fun q2 => (xpi q2.2 p1 11 1 q2.1).bind fun h3 => (f_X8_word h3 N p0 (9100 + 7)).bind fun q4 => (f_X8_readCase q4 N p0 p1 0).bind fun q5 => (xpi q5 p1 11 5 1).bind fun h6 => f_X8_readPay_b34 N N h6 p0 p1 1 else none
theorem g_X8_readPay {h0 : AH} {N : Nat} {p0 : Nat} {p1 : Nat} {x : AH} (e : f_X8_readPay h0 N p0 p1 = some x) : kd h0 p0 = 9 + 1 := by
  unfold f_X8_readPay at e
  by_cases hk : kd h0 p0 = 9 + 1
  · exact hk
  · rw [if_neg hk] at e
    cases e
theorem km_X8_readPay : KM yX8_readPay M_X8_readPay 1 := ⟨in_tb 573 (by decide +kernel) rfl, in_tb 6 (by decide +kernel) rfl, by decide +kernel, rfl, rfl⟩
theorem hm_X8_readPay : M_X8_readPay.2.2.2.2.2.1 = 0 ∧ M_X8_readPay.2.2.2.2.2.2.1 = 0 := ⟨rfl, rfl⟩
section
variable {l : Launch} {g : GG}
set_option maxRecDepth 100000 in
set_option maxHeartbeats 4000000 in
theorem t_X8_readPay_b34_body (h0 : AH) (N : Nat) (K34 : AH → Nat → Nat → Int32 → Option AH) (hK34 : ∀ (z : AH) (z0 : Nat) (z1 : Nat) (z2 : Int32), AO l g M_X8_readPay false h0 34 [(0, .ref z0), (1, .ref z1), (2, .int z2)] [] z 0 0 rSv (K34 z z0 z1 z2)) (h : AH) (x0 : Nat) (x1 : Nat) (x2 : Int32) : AO l g M_X8_readPay false h0 34 [(0, .ref x0), (1, .ref x1), (2, .int x2)] [] h 0 0 rSv (f_X8_readPay_b34_body N K34 h x0 x1 x2) := by
  unfold f_X8_readPay_b34_body
  refine a_iload_n dX8_readPay_34 rfl 2 rfl ?_
  refine a_iconst (v := 4) dX8_readPay_35 (by decide) ?_
  refine a_icmp_ge 82 dX8_readPay_36 (by decide) (fun c7 => ?_) (fun c7 => ?_)
  · exact a_vret dX8_readPay_82 rfl rfl (by decide) (by decide)
  · refine a_aload_n dX8_readPay_39 rfl 0 rfl ?_
    refine a_geti kc9 3 dX8_readPay_40 (by decide) rfl w_fieldLink_RainCover_Tape_20 (fun v8 => ?_)
    refine a_if_ne 82 dX8_readPay_43 (by decide) (fun c9 => ?_) (fun c9 => ?_)
    · refine a_aload_n dX8_readPay_46 rfl 0 rfl ?_
      refine a_geti kc9 2 dX8_readPay_47 (by decide) rfl w_fieldLink_RainCover_Tape_17 (fun v10 => ?_)
      refine a_aload_n dX8_readPay_50 rfl 0 rfl ?_
      refine a_geti kc9 1 dX8_readPay_51 (by decide) rfl w_fieldLink_RainCover_Tape_13 (fun v11 => ?_)
      refine a_icmp_ge 82 dX8_readPay_54 (by decide) (fun c12 => ?_) (fun c12 => ?_)
      · exact a_vret dX8_readPay_82 rfl rfl (by decide) (by decide)
      · refine a_aload_n dX8_readPay_57 rfl 0 rfl ?_
        refine a_ldcS 15 dX8_readPay_58 (by decide) ⟨rfl, rfl⟩ ?_
        refine a_cV_Sv (r := x0) (ci := 9) (as := [.ref (9100 + 15)]) (st := []) dX8_readPay_60 (c_X8_word l g h N x0 (9100 + 15)) rfl km_X8_word (hm_X8_word) rfl (by decide) rfl (fun _ ee => g_X8_word ee) w_methodLink_RainCover_Tape_43 w_instanceMethod_RainCover_Tape_word__Ljava_lang_String__V w_selects_RainCover_Tape_RainCover_Tape_word__Ljava_lang_String__V_RainCover_Tape_word__Ljava_lang_String__V ⟨⟨by decide, by decide⟩, ⟨by decide, by decide⟩⟩ (Nat.le_of_ble_eq_true rfl) (fun q13 => ?_)
        refine a_aload_n dX8_readPay_63 rfl 0 rfl ?_
        refine a_aload_n dX8_readPay_64 rfl 1 rfl ?_
        refine a_iload_n dX8_readPay_65 rfl 2 rfl ?_
        refine a_cV_Sv (r := x0) (ci := 9) (as := [.ref x1, .int x2]) (st := []) dX8_readPay_66 (c_X8_readCase l g q13 N x0 x1 x2) rfl km_X8_readCase (hm_X8_readCase) rfl (by decide) rfl (fun _ ee => g_X8_readCase ee) w_methodLink_RainCover_Tape_86 w_instanceMethod_RainCover_Tape_readCase__LRainCover_Term_I_V w_selects_RainCover_Tape_RainCover_Tape_readCase__LRainCover_Term_I_V_RainCover_Tape_readCase__LRainCover_Term_I_V ⟨⟨by decide, by decide⟩, ⟨by decide, by decide⟩⟩ (Nat.le_of_ble_eq_true rfl) (fun q14 => ?_)
        refine a_aload_n dX8_readPay_69 rfl 1 rfl ?_
        refine a_iload_n dX8_readPay_70 rfl 2 rfl ?_
        refine a_iconst (v := 1) dX8_readPay_71 (by decide) ?_
        refine a_iadd dX8_readPay_72 ?_
        refine a_puti kc11 5 dX8_readPay_73 (by decide) rfl w_fieldLink_RainCover_Tape_79 rfl rfl (fun h15 => ?_)
        refine a_iinc (q := 2) (v := (x2 + 1)) (lc2 := [(2, .int (x2 + 1)), (0, .ref x0), (1, .ref x1)]) dX8_readPay_76 rfl rfl (by decide) rfl ?_
        refine a_goto 34 dX8_readPay_79 (by decide) ?_
        refine a_pick (lc2 := [(0, .ref x0), (1, .ref x1), (2, .int (x2 + 1))]) [1, 2, 0] rfl ?_
        exact hK34 h15 x0 x1 (x2 + 1)
    · exact a_vret dX8_readPay_82 rfl rfl (by decide) (by decide)
set_option maxRecDepth 100000 in
set_option maxHeartbeats 4000000 in
theorem t_X8_readPay_b34 (h0 : AH) (N : Nat) : ∀ (n : Nat) (h : AH) (x0 : Nat) (x1 : Nat) (x2 : Int32) , AO l g M_X8_readPay false h0 34 [(0, .ref x0), (1, .ref x1), (2, .int x2)] [] h 0 0 rSv (f_X8_readPay_b34 N  n h x0 x1 x2) := by
  intro n
  induction n with
  | zero => intro h x0 x1 x2; exact a_eq rfl a_none
  | succ n ih => intro h x0 x1 x2; exact a_eq rfl (t_X8_readPay_b34_body h0 N  (f_X8_readPay_b34 N  n) ih h x0 x1 x2)
end
set_option maxRecDepth 100000 in
set_option maxHeartbeats 4000000 in
theorem c_X8_readPay (l : Launch) (g : GG) (h0 : AH) (N : Nat) (p0 : Nat) (p1 : Nat) : CN l g yX8_readPay M_X8_readPay false [.ref p0, .ref p1] h0 rSv (f_X8_readPay h0 N p0 p1) := by
  refine CN.of (by decide) rfl (fun hh => by first | rfl | cases hh) (Nat.le_of_ble_eq_true rfl) ?_
  unfold f_X8_readPay
  refine a_gd (fun hkd => ?_)
  refine a_aload_n dX8_readPay_0 rfl 0 rfl ?_
  refine a_ldcS 6 dX8_readPay_1 (by decide) ⟨rfl, rfl⟩ ?_
  refine a_cV_Sv (r := p0) (ci := 9) (as := [.ref (9100 + 6)]) (st := []) dX8_readPay_3 (c_X8_word l g h0 N p0 (9100 + 6)) rfl km_X8_word (hm_X8_word) rfl (by decide) rfl (fun _ ee => g_X8_word ee) w_methodLink_RainCover_Tape_43 w_instanceMethod_RainCover_Tape_word__Ljava_lang_String__V w_selects_RainCover_Tape_RainCover_Tape_word__Ljava_lang_String__V_RainCover_Tape_word__Ljava_lang_String__V ⟨⟨by decide, by decide⟩, ⟨by decide, by decide⟩⟩ (Nat.le_of_ble_eq_true rfl) (fun q1 => ?_)
  refine a_aload_n dX8_readPay_6 rfl 1 rfl ?_
  refine a_aload_n dX8_readPay_7 rfl 0 rfl ?_
  refine a_iconst (v := 4) dX8_readPay_8 (by decide) ?_
  refine a_cV_Si (r := p0) (ci := 9) (as := [.int 4]) (st := [.ref p1]) dX8_readPay_9 (c_X8_number l g q1 N p0 4) rfl km_X8_number (hm_X8_number) rfl (by decide) rfl (fun _ ee => g_X8_number ee) w_methodLink_RainCover_Tape_47 w_instanceMethod_RainCover_Tape_number__I_I w_selects_RainCover_Tape_RainCover_Tape_number__I_I_RainCover_Tape_number__I_I ⟨⟨by decide, by decide⟩, ⟨by decide, by decide⟩⟩ (Nat.le_of_ble_eq_true rfl) (fun q2 => ?_)
  refine a_puti kc11 1 dX8_readPay_12 (by decide) rfl w_fieldLink_RainCover_Tape_51 rfl rfl (fun h3 => ?_)
  refine a_aload_n dX8_readPay_15 rfl 0 rfl ?_
  refine a_ldcS 7 dX8_readPay_16 (by decide) ⟨rfl, rfl⟩ ?_
  refine a_cV_Sv (r := p0) (ci := 9) (as := [.ref (9100 + 7)]) (st := []) dX8_readPay_18 (c_X8_word l g h3 N p0 (9100 + 7)) rfl km_X8_word (hm_X8_word) rfl (by decide) rfl (fun _ ee => g_X8_word ee) w_methodLink_RainCover_Tape_43 w_instanceMethod_RainCover_Tape_word__Ljava_lang_String__V w_selects_RainCover_Tape_RainCover_Tape_word__Ljava_lang_String__V_RainCover_Tape_word__Ljava_lang_String__V ⟨⟨by decide, by decide⟩, ⟨by decide, by decide⟩⟩ (Nat.le_of_ble_eq_true rfl) (fun q4 => ?_)
  refine a_aload_n dX8_readPay_21 rfl 0 rfl ?_
  refine a_aload_n dX8_readPay_22 rfl 1 rfl ?_
  refine a_iconst (v := 0) dX8_readPay_23 (by decide) ?_
  refine a_cV_Sv (r := p0) (ci := 9) (as := [.ref p1, .int 0]) (st := []) dX8_readPay_24 (c_X8_readCase l g q4 N p0 p1 0) rfl km_X8_readCase (hm_X8_readCase) rfl (by decide) rfl (fun _ ee => g_X8_readCase ee) w_methodLink_RainCover_Tape_86 w_instanceMethod_RainCover_Tape_readCase__LRainCover_Term_I_V w_selects_RainCover_Tape_RainCover_Tape_readCase__LRainCover_Term_I_V_RainCover_Tape_readCase__LRainCover_Term_I_V ⟨⟨by decide, by decide⟩, ⟨by decide, by decide⟩⟩ (Nat.le_of_ble_eq_true rfl) (fun q5 => ?_)
  refine a_aload_n dX8_readPay_27 rfl 1 rfl ?_
  refine a_iconst (v := 1) dX8_readPay_28 (by decide) ?_
  refine a_puti kc11 5 dX8_readPay_29 (by decide) rfl w_fieldLink_RainCover_Tape_79 rfl rfl (fun h6 => ?_)
  refine a_iconst (v := 1) dX8_readPay_32 (by decide) ?_
  refine a_istore_n (lc2 := [(2, .int 1), (0, .ref p0), (1, .ref p1)]) dX8_readPay_33 rfl (by decide) rfl ?_
  refine a_pick (lc2 := [(0, .ref p0), (1, .ref p1), (2, .int 1)]) [1, 2, 0] rfl ?_
  exact t_X8_readPay_b34 h0 N N h6 p0 p1 1
theorem dX8_read_0 : decode cX8_read 0 = .ok (.aload_n 0, 1) := by decide +kernel
theorem dX8_read_1 : decode cX8_read 1 = .ok (.iconst 0, 1) := by decide +kernel
theorem dX8_read_2 : decode cX8_read 2 = .ok (.putfield 17, 3) := by decide +kernel
theorem dX8_read_5 : decode cX8_read 5 = .ok (.aload_n 0, 1) := by decide +kernel
theorem dX8_read_6 : decode cX8_read 6 = .ok (.iconst 0, 1) := by decide +kernel
theorem dX8_read_7 : decode cX8_read 7 = .ok (.putfield 20, 3) := by decide +kernel
theorem dX8_read_10 : decode cX8_read 10 = .ok (.new 24, 3) := by decide +kernel
theorem dX8_read_13 : decode cX8_read 13 = .ok (.dup, 1) := by decide +kernel
theorem dX8_read_14 : decode cX8_read 14 = .ok (.invokespecial 26, 3) := by decide +kernel
theorem dX8_read_17 : decode cX8_read 17 = .ok (.astore_n 1, 1) := by decide +kernel
theorem dX8_read_18 : decode cX8_read 18 = .ok (.aload_n 0, 1) := by decide +kernel
theorem dX8_read_19 : decode cX8_read 19 = .ok (.invokevirtual 27, 3) := by decide +kernel
theorem dX8_read_22 : decode cX8_read 22 = .ok (.bipush 114, 2) := by decide +kernel
theorem dX8_read_24 : decode cX8_read 24 = .ok (.if_icmp .ne 11, 3) := by decide +kernel
theorem dX8_read_27 : decode cX8_read 27 = .ok (.aload_n 0, 1) := by decide +kernel
theorem dX8_read_28 : decode cX8_read 28 = .ok (.aload_n 1, 1) := by decide +kernel
theorem dX8_read_29 : decode cX8_read 29 = .ok (.invokevirtual 31, 3) := by decide +kernel
theorem dX8_read_32 : decode cX8_read 32 = .ok (.goto 8, 3) := by decide +kernel
theorem dX8_read_35 : decode cX8_read 35 = .ok (.aload_n 0, 1) := by decide +kernel
theorem dX8_read_36 : decode cX8_read 36 = .ok (.aload_n 1, 1) := by decide +kernel
theorem dX8_read_37 : decode cX8_read 37 = .ok (.invokevirtual 35, 3) := by decide +kernel
theorem dX8_read_40 : decode cX8_read 40 = .ok (.aload_n 0, 1) := by decide +kernel
theorem dX8_read_41 : decode cX8_read 41 = .ok (.getfield 20, 3) := by decide +kernel
theorem dX8_read_44 : decode cX8_read 44 = .ok (.ifCond .ne 14, 3) := by decide +kernel
theorem dX8_read_47 : decode cX8_read 47 = .ok (.aload_n 0, 1) := by decide +kernel
theorem dX8_read_48 : decode cX8_read 48 = .ok (.getfield 17, 3) := by decide +kernel
theorem dX8_read_51 : decode cX8_read 51 = .ok (.aload_n 0, 1) := by decide +kernel
theorem dX8_read_52 : decode cX8_read 52 = .ok (.getfield 13, 3) := by decide +kernel
theorem dX8_read_55 : decode cX8_read 55 = .ok (.if_icmp .ge 7, 3) := by decide +kernel
theorem dX8_read_58 : decode cX8_read 58 = .ok (.aconst_null, 1) := by decide +kernel
theorem dX8_read_59 : decode cX8_read 59 = .ok (.goto 4, 3) := by decide +kernel
theorem dX8_read_62 : decode cX8_read 62 = .ok (.aload_n 1, 1) := by decide +kernel
theorem dX8_read_63 : decode cX8_read 63 = .ok (.areturn, 1) := by decide +kernel
abbrev M_X8_read : MI := (RX8, cX8_read, 2, (some (.object "RainCover$Term")), ({ frames := 8, cells := 6, slots := 31, locals := 173 } : Room), 6, 31, false)
def f_X8_read_b58 (N : Nat) (h : AH) : Option (Option Nat × AH) := some (none, h)
def f_X8_read_b40 (N : Nat) (h : AH) (x0 : Nat) (x1 : Nat) : Option (Option Nat × AH) := (xgi h x0 9 3).bind fun v9 => (if v9 = 0 then (xgi h x0 9 2).bind fun v11 => (xgi h x0 9 1).bind fun v12 => (if v12 ≤ v11 then some (some x1, h) else f_X8_read_b58 N h) else f_X8_read_b58 N h)
def f_X8_read (h0 : AH) (N : Nat) (p0 : Nat) : Option (Option Nat × AH) := if kd h0 p0 = 9 + 1 then (xpi h0 p0 9 2 0).bind fun h1 => (xpz h1 p0 9 3 0).bind fun h2 => (gl h2 [p0]).bind fun _ => (xnw h2 (tfree h2) 11).bind fun h3 => (gl h3 [p0, (tfree h2)]).bind fun _ => (f_X10_init h3 (tfree h2)).bind fun q4 => (f_X8_next q4 p0).bind fun v5 => (if v5 = 114 then (f_X8_readRate q4 N p0 (tfree h2)).bind fun q7 => f_X8_read_b40 N q7 p0 (tfree h2) else (f_X8_readPay q4 N p0 (tfree h2)).bind fun q8 => f_X8_read_b40 N q8 p0 (tfree h2)) else none
theorem g_X8_read {h0 : AH} {N : Nat} {p0 : Nat} {x : (Option Nat × AH)} (e : f_X8_read h0 N p0 = some x) : kd h0 p0 = 9 + 1 := by
  unfold f_X8_read at e
  by_cases hk : kd h0 p0 = 9 + 1
  · exact hk
  · rw [if_neg hk] at e
    cases e
theorem km_X8_read : KM yX8_read M_X8_read 0 := ⟨in_tb 445 (by decide +kernel) rfl, in_tb 6 (by decide +kernel) rfl, by decide +kernel, rfl, rfl⟩
section
variable {l : Launch} {g : GG}
set_option maxRecDepth 100000 in
set_option maxHeartbeats 4000000 in
theorem t_X8_read_b58 (h0 : AH) (N : Nat) (h : AH) : AO l g M_X8_read true h0 58 [] [] h 6 31 rSn (f_X8_read_b58 N  h ) := by
  unfold f_X8_read_b58
  refine a_null dX8_read_58 ?_
  refine a_goto 63 dX8_read_59 (by decide) ?_
  exact a_nret dX8_read_63 rfl (Or.inl ⟨_, rfl⟩) rfl (by decide) (by decide)
set_option maxRecDepth 100000 in
set_option maxHeartbeats 4000000 in
theorem t_X8_read_b40 (h0 : AH) (N : Nat) (h : AH) (x0 : Nat) (x1 : Nat) : AO l g M_X8_read true h0 40 [(0, .ref x0), (1, .ref x1)] [] h 6 31 rSn (f_X8_read_b40 N  h x0 x1) := by
  unfold f_X8_read_b40
  refine a_aload_n dX8_read_40 rfl 0 rfl ?_
  refine a_geti kc9 3 dX8_read_41 (by decide) rfl w_fieldLink_RainCover_Tape_20 (fun v9 => ?_)
  refine a_if_ne 58 dX8_read_44 (by decide) (fun c10 => ?_) (fun c10 => ?_)
  · refine a_aload_n dX8_read_47 rfl 0 rfl ?_
    refine a_geti kc9 2 dX8_read_48 (by decide) rfl w_fieldLink_RainCover_Tape_17 (fun v11 => ?_)
    refine a_aload_n dX8_read_51 rfl 0 rfl ?_
    refine a_geti kc9 1 dX8_read_52 (by decide) rfl w_fieldLink_RainCover_Tape_13 (fun v12 => ?_)
    refine a_icmp_ge 62 dX8_read_55 (by decide) (fun c13 => ?_) (fun c13 => ?_)
    · refine a_aload_n dX8_read_62 rfl 1 rfl ?_
      exact a_aret dX8_read_63 rfl (Or.inl ⟨_, rfl⟩) rfl (by decide) (by decide)
    · refine a_pick (lc2 := []) [] rfl ?_
      exact t_X8_read_b58 h0 N h
  · refine a_pick (lc2 := []) [] rfl ?_
    exact t_X8_read_b58 h0 N h
end
set_option maxRecDepth 100000 in
set_option maxHeartbeats 4000000 in
theorem c_X8_read (l : Launch) (g : GG) (h0 : AH) (N : Nat) (p0 : Nat) : CN l g yX8_read M_X8_read true [.ref p0] h0 rSn (f_X8_read h0 N p0) := by
  refine CN.of (by decide) rfl (fun hh => by first | rfl | cases hh) (Nat.le_of_ble_eq_true rfl) ?_
  unfold f_X8_read
  refine a_gd (fun hkd => ?_)
  refine a_aload_n dX8_read_0 rfl 0 rfl ?_
  refine a_iconst (v := 0) dX8_read_1 (by decide) ?_
  refine a_puti kc9 2 dX8_read_2 (by decide) rfl w_fieldLink_RainCover_Tape_17 rfl rfl (fun h1 => ?_)
  refine a_aload_n dX8_read_5 rfl 0 rfl ?_
  refine a_iconst (v := 0) dX8_read_6 (by decide) ?_
  refine a_putz kc9 3 dX8_read_7 (by decide) rfl w_fieldLink_RainCover_Tape_20 rfl rfl (fun h2 => ?_)
  refine a_new (r := (tfree h2)) kc11 [p0] rfl dX8_read_10 (by decide +kernel) w_classLink_RainCover_Tape_24 w_instantiable_RainCover_Term w_initialized_RainCover_Term (by decide) (by decide) (fun h3 => ?_)
  refine a_widen 1 11 (by decide) (by decide) ?_
  refine a_dup dX8_read_13 rfl ?_
  refine a_xIN_Sv (r := (tfree h2)) (as := []) (st := [.ref (tfree h2)]) dX8_read_14 [p0, (tfree h2)] rfl (c_X10_init l g h3 (tfree h2)) rfl km_X10_init rfl rfl (host := "RainCover") (by decide +kernel) w_instanceMethod_RainCover_Term__init____V ⟨⟨by decide, by decide⟩, ⟨by decide, by decide⟩⟩ (Nat.le_of_ble_eq_true rfl) (fun q4 => ?_)
  refine a_widen 6 31 (by decide) (by decide) ?_
  refine a_astore_n (lc2 := [(1, .ref (tfree h2)), (0, .ref p0)]) dX8_read_17 rfl (by decide) rfl ?_
  refine a_aload_n dX8_read_18 rfl 1 rfl ?_
  refine a_cV_Pi (r := p0) (ci := 9) (as := []) (st := []) dX8_read_19 (c_X8_next l g q4 p0) rfl km_X8_next (hm_X8_next) rfl (by decide) rfl (fun _ ee => g_X8_next ee) w_methodLink_RainCover_Tape_27 w_instanceMethod_RainCover_Tape_next___I w_selects_RainCover_Tape_RainCover_Tape_next___I_RainCover_Tape_next___I ⟨⟨by decide, by decide⟩, ⟨by decide, by decide⟩⟩ (Nat.le_of_ble_eq_true rfl) (fun v5 => ?_)
  refine a_bipush (v := 114) dX8_read_22 (by decide) ?_
  refine a_icmp_ne 35 dX8_read_24 (by decide) (fun c6 => ?_) (fun c6 => ?_)
  · refine a_aload_n dX8_read_27 rfl 1 rfl ?_
    refine a_aload_n dX8_read_28 rfl 0 rfl ?_
    refine a_cV_Sv (r := p0) (ci := 9) (as := [.ref (tfree h2)]) (st := []) dX8_read_29 (c_X8_readRate l g q4 N p0 (tfree h2)) rfl km_X8_readRate (hm_X8_readRate) rfl (by decide) rfl (fun _ ee => g_X8_readRate ee) w_methodLink_RainCover_Tape_31 w_instanceMethod_RainCover_Tape_readRate__LRainCover_Term__V w_selects_RainCover_Tape_RainCover_Tape_readRate__LRainCover_Term__V_RainCover_Tape_readRate__LRainCover_Term__V ⟨⟨by decide, by decide⟩, ⟨by decide, by decide⟩⟩ (Nat.le_of_ble_eq_true rfl) (fun q7 => ?_)
    refine a_goto 40 dX8_read_32 (by decide) ?_
    refine a_pick (lc2 := [(0, .ref p0), (1, .ref (tfree h2))]) [1, 0] rfl ?_
    exact t_X8_read_b40 h0 N q7 p0 (tfree h2)
  · refine a_aload_n dX8_read_35 rfl 1 rfl ?_
    refine a_aload_n dX8_read_36 rfl 0 rfl ?_
    refine a_cV_Sv (r := p0) (ci := 9) (as := [.ref (tfree h2)]) (st := []) dX8_read_37 (c_X8_readPay l g q4 N p0 (tfree h2)) rfl km_X8_readPay (hm_X8_readPay) rfl (by decide) rfl (fun _ ee => g_X8_readPay ee) w_methodLink_RainCover_Tape_35 w_instanceMethod_RainCover_Tape_readPay__LRainCover_Term__V w_selects_RainCover_Tape_RainCover_Tape_readPay__LRainCover_Term__V_RainCover_Tape_readPay__LRainCover_Term__V ⟨⟨by decide, by decide⟩, ⟨by decide, by decide⟩⟩ (Nat.le_of_ble_eq_true rfl) (fun q8 => ?_)
    refine a_pick (lc2 := [(0, .ref p0), (1, .ref (tfree h2))]) [1, 0] rfl ?_
    exact t_X8_read_b40 h0 N q8 p0 (tfree h2)
theorem dX10_isSound_0 : decode cX10_isSound 0 = .ok (.iconst 0, 1) := by decide +kernel
theorem dX10_isSound_1 : decode cX10_isSound 1 = .ok (.istore_n 1, 1) := by decide +kernel
theorem dX10_isSound_2 : decode cX10_isSound 2 = .ok (.iload_n 1, 1) := by decide +kernel
theorem dX10_isSound_3 : decode cX10_isSound 3 = .ok (.aload_n 0, 1) := by decide +kernel
theorem dX10_isSound_4 : decode cX10_isSound 4 = .ok (.getfield 15, 3) := by decide +kernel
theorem dX10_isSound_7 : decode cX10_isSound 7 = .ok (.if_icmp .ge 37, 3) := by decide +kernel
theorem dX10_isSound_10 : decode cX10_isSound 10 = .ok (.aload_n 0, 1) := by decide +kernel
theorem dX10_isSound_11 : decode cX10_isSound 11 = .ok (.getfield 23, 3) := by decide +kernel
theorem dX10_isSound_14 : decode cX10_isSound 14 = .ok (.iload_n 1, 1) := by decide +kernel
theorem dX10_isSound_15 : decode cX10_isSound 15 = .ok (.iaload, 1) := by decide +kernel
theorem dX10_isSound_16 : decode cX10_isSound 16 = .ok (.aload_n 0, 1) := by decide +kernel
theorem dX10_isSound_17 : decode cX10_isSound 17 = .ok (.getfield 26, 3) := by decide +kernel
theorem dX10_isSound_20 : decode cX10_isSound 20 = .ok (.iload_n 1, 1) := by decide +kernel
theorem dX10_isSound_21 : decode cX10_isSound 21 = .ok (.iaload, 1) := by decide +kernel
theorem dX10_isSound_22 : decode cX10_isSound 22 = .ok (.if_icmp .gt 14, 3) := by decide +kernel
theorem dX10_isSound_25 : decode cX10_isSound 25 = .ok (.aload_n 0, 1) := by decide +kernel
theorem dX10_isSound_26 : decode cX10_isSound 26 = .ok (.getfield 26, 3) := by decide +kernel
theorem dX10_isSound_29 : decode cX10_isSound 29 = .ok (.iload_n 1, 1) := by decide +kernel
theorem dX10_isSound_30 : decode cX10_isSound 30 = .ok (.iaload, 1) := by decide +kernel
theorem dX10_isSound_31 : decode cX10_isSound 31 = .ok (.bipush 12, 2) := by decide +kernel
theorem dX10_isSound_33 : decode cX10_isSound 33 = .ok (.if_icmp .lt 5, 3) := by decide +kernel
theorem dX10_isSound_36 : decode cX10_isSound 36 = .ok (.iconst 0, 1) := by decide +kernel
theorem dX10_isSound_37 : decode cX10_isSound 37 = .ok (.ireturn, 1) := by decide +kernel
theorem dX10_isSound_38 : decode cX10_isSound 38 = .ok (.iinc 1 1, 3) := by decide +kernel
theorem dX10_isSound_41 : decode cX10_isSound 41 = .ok (.goto (-39), 3) := by decide +kernel
theorem dX10_isSound_44 : decode cX10_isSound 44 = .ok (.aload_n 0, 1) := by decide +kernel
theorem dX10_isSound_45 : decode cX10_isSound 45 = .ok (.getfield 9, 3) := by decide +kernel
theorem dX10_isSound_48 : decode cX10_isSound 48 = .ok (.ifCond .eq 10, 3) := by decide +kernel
theorem dX10_isSound_51 : decode cX10_isSound 51 = .ok (.aload_n 0, 1) := by decide +kernel
theorem dX10_isSound_52 : decode cX10_isSound 52 = .ok (.getfield 36, 3) := by decide +kernel
theorem dX10_isSound_55 : decode cX10_isSound 55 = .ok (.ifCond .le 7, 3) := by decide +kernel
theorem dX10_isSound_58 : decode cX10_isSound 58 = .ok (.iconst 1, 1) := by decide +kernel
theorem dX10_isSound_59 : decode cX10_isSound 59 = .ok (.goto 4, 3) := by decide +kernel
theorem dX10_isSound_62 : decode cX10_isSound 62 = .ok (.iconst 0, 1) := by decide +kernel
theorem dX10_isSound_63 : decode cX10_isSound 63 = .ok (.ireturn, 1) := by decide +kernel
abbrev M_X10_isSound : MI := (RX10, cX10_isSound, 2, (some .boolean), ({ frames := 0, cells := 0, slots := 0, locals := 0 } : Room), 0, 0, false)
def f_X10_isSound_b58 (h : AH) (N : Nat) : Option Int32 := some 1
def f_X10_isSound_b2_body (h : AH) (N : Nat) (K2 : Nat → Int32 → Option Int32) (x0 : Nat) (x1 : Int32) : Option Int32 := (xgi h x0 11 5).bind fun v1 => (if v1 ≤ x1 then (xgi h x0 11 0).bind fun v3 => (if v3 = 0 then f_X10_isSound_b58 h N else (xgi h x0 11 2).bind fun v5 => (if v5 ≤ 0 then some 0 else f_X10_isSound_b58 h N)) else (xgr h x0 11 7).bind fun v7 => (xia h v7 x1).bind fun v8 => (xgr h x0 11 8).bind fun v9 => (xia h v9 x1).bind fun v10 => (if v10 < v8 then some 0 else (xgr h x0 11 8).bind fun v12 => (xia h v12 x1).bind fun v13 => (if v13 < 12 then K2 x0 (x1 + 1) else some 0)))
def f_X10_isSound_b2 (h : AH) (N : Nat) : Nat → Nat → Int32 → Option Int32
  | 0, _, _ => none
  | n + 1, x0, x1 => f_X10_isSound_b2_body h N  (f_X10_isSound_b2 h N  n) x0 x1
def f_X10_isSound (h : AH) (N : Nat) (p0 : Nat) : Option Int32 := if kd h p0 = 11 + 1 then f_X10_isSound_b2 h N N p0 0 else none
theorem g_X10_isSound {h : AH} {N : Nat} {p0 : Nat} {x : Int32} (e : f_X10_isSound h N p0 = some x) : kd h p0 = 11 + 1 := by
  unfold f_X10_isSound at e
  by_cases hk : kd h p0 = 11 + 1
  · exact hk
  · rw [if_neg hk] at e
    cases e
theorem km_X10_isSound : KM yX10_isSound M_X10_isSound 0 := ⟨in_tb 591 (by decide +kernel) rfl, in_tb 17 (by decide +kernel) rfl, by decide +kernel, rfl, rfl⟩
theorem hm_X10_isSound : M_X10_isSound.2.2.2.2.2.1 = 0 ∧ M_X10_isSound.2.2.2.2.2.2.1 = 0 := ⟨rfl, rfl⟩
section
variable {l : Launch} {g : GG}
set_option maxRecDepth 100000 in
set_option maxHeartbeats 4000000 in
theorem t_X10_isSound_b58 (h : AH) (N : Nat) : AO l g M_X10_isSound false h 58 [] [] h 0 0 (rPi h) (f_X10_isSound_b58 h N  ) := by
  unfold f_X10_isSound_b58
  refine a_iconst (v := 1) dX10_isSound_58 (by decide) ?_
  refine a_goto 63 dX10_isSound_59 (by decide) ?_
  exact a_zret dX10_isSound_63 rfl (Or.inr rfl) rfl (by decide) (by decide)
set_option maxRecDepth 100000 in
set_option maxHeartbeats 4000000 in
theorem t_X10_isSound_b2_body (h : AH) (N : Nat) (K2 : Nat → Int32 → Option Int32) (hK2 : ∀ (z0 : Nat) (z1 : Int32), AO l g M_X10_isSound false h 2 [(0, .ref z0), (1, .int z1)] [] h 0 0 (rPi h) (K2 z0 z1)) (x0 : Nat) (x1 : Int32) : AO l g M_X10_isSound false h 2 [(0, .ref x0), (1, .int x1)] [] h 0 0 (rPi h) (f_X10_isSound_b2_body h N K2 x0 x1) := by
  unfold f_X10_isSound_b2_body
  refine a_iload_n dX10_isSound_2 rfl 1 rfl ?_
  refine a_aload_n dX10_isSound_3 rfl 0 rfl ?_
  refine a_geti kc11 5 dX10_isSound_4 (by decide) rfl w_fieldLink_RainCover_Term_15 (fun v1 => ?_)
  refine a_icmp_ge 44 dX10_isSound_7 (by decide) (fun c2 => ?_) (fun c2 => ?_)
  · refine a_aload_n dX10_isSound_44 rfl 0 rfl ?_
    refine a_geti kc11 0 dX10_isSound_45 (by decide) rfl w_fieldLink_RainCover_Term_9 (fun v3 => ?_)
    refine a_if_eq 58 dX10_isSound_48 (by decide) (fun c4 => ?_) (fun c4 => ?_)
    · refine a_pick (lc2 := []) [] rfl ?_
      exact t_X10_isSound_b58 h N
    · refine a_aload_n dX10_isSound_51 rfl 0 rfl ?_
      refine a_geti kc11 2 dX10_isSound_52 (by decide) rfl w_fieldLink_RainCover_Term_36 (fun v5 => ?_)
      refine a_if_le 62 dX10_isSound_55 (by decide) (fun c6 => ?_) (fun c6 => ?_)
      · refine a_iconst (v := 0) dX10_isSound_62 (by decide) ?_
        exact a_zret dX10_isSound_63 rfl (Or.inl rfl) rfl (by decide) (by decide)
      · refine a_pick (lc2 := []) [] rfl ?_
        exact t_X10_isSound_b58 h N
  · refine a_aload_n dX10_isSound_10 rfl 0 rfl ?_
    refine a_getr kc11 7 dX10_isSound_11 (by decide) rfl w_fieldLink_RainCover_Term_23 (fun v7 => ?_)
    refine a_iload_n dX10_isSound_14 rfl 1 rfl ?_
    refine a_iald dX10_isSound_15 (fun v8 => ?_)
    refine a_aload_n dX10_isSound_16 rfl 0 rfl ?_
    refine a_getr kc11 8 dX10_isSound_17 (by decide) rfl w_fieldLink_RainCover_Term_26 (fun v9 => ?_)
    refine a_iload_n dX10_isSound_20 rfl 1 rfl ?_
    refine a_iald dX10_isSound_21 (fun v10 => ?_)
    refine a_icmp_gt 36 dX10_isSound_22 (by decide) (fun c11 => ?_) (fun c11 => ?_)
    · refine a_iconst (v := 0) dX10_isSound_36 (by decide) ?_
      exact a_zret dX10_isSound_37 rfl (Or.inl rfl) rfl (by decide) (by decide)
    · refine a_aload_n dX10_isSound_25 rfl 0 rfl ?_
      refine a_getr kc11 8 dX10_isSound_26 (by decide) rfl w_fieldLink_RainCover_Term_26 (fun v12 => ?_)
      refine a_iload_n dX10_isSound_29 rfl 1 rfl ?_
      refine a_iald dX10_isSound_30 (fun v13 => ?_)
      refine a_bipush (v := 12) dX10_isSound_31 (by decide) ?_
      refine a_icmp_lt 38 dX10_isSound_33 (by decide) (fun c14 => ?_) (fun c14 => ?_)
      · refine a_iinc (q := 1) (v := (x1 + 1)) (lc2 := [(1, .int (x1 + 1)), (0, .ref x0)]) dX10_isSound_38 rfl rfl (by decide) rfl ?_
        refine a_goto 2 dX10_isSound_41 (by decide) ?_
        refine a_pick (lc2 := [(0, .ref x0), (1, .int (x1 + 1))]) [1, 0] rfl ?_
        exact hK2 x0 (x1 + 1)
      · refine a_iconst (v := 0) dX10_isSound_36 (by decide) ?_
        exact a_zret dX10_isSound_37 rfl (Or.inl rfl) rfl (by decide) (by decide)
set_option maxRecDepth 100000 in
set_option maxHeartbeats 4000000 in
theorem t_X10_isSound_b2 (h : AH) (N : Nat) : ∀ (n : Nat) (x0 : Nat) (x1 : Int32) , AO l g M_X10_isSound false h 2 [(0, .ref x0), (1, .int x1)] [] h 0 0 (rPi h) (f_X10_isSound_b2 h N  n x0 x1) := by
  intro n
  induction n with
  | zero => intro x0 x1; exact a_eq rfl a_none
  | succ n ih => intro x0 x1; exact a_eq rfl (t_X10_isSound_b2_body h N  (f_X10_isSound_b2 h N  n) ih x0 x1)
end
set_option maxRecDepth 100000 in
set_option maxHeartbeats 4000000 in
theorem c_X10_isSound (l : Launch) (g : GG) (h : AH) (N : Nat) (p0 : Nat) : CN l g yX10_isSound M_X10_isSound false [.ref p0] h ((rPi h)) (f_X10_isSound h N p0) := by
  refine CN.of (by decide) rfl (fun hh => by first | rfl | cases hh) (Nat.le_of_ble_eq_true rfl) ?_
  unfold f_X10_isSound
  refine a_gd (fun hkd => ?_)
  refine a_iconst (v := 0) dX10_isSound_0 (by decide) ?_
  refine a_istore_n (lc2 := [(1, .int 0), (0, .ref p0)]) dX10_isSound_1 rfl (by decide) rfl ?_
  refine a_pick (lc2 := [(0, .ref p0), (1, .int 0)]) [1, 0] rfl ?_
  exact t_X10_isSound_b2 h N N p0 0
theorem dX11_term_0 : decode cX11_term 0 = .ok (.aload_n 0, 1) := by decide +kernel
theorem dX11_term_1 : decode cX11_term 1 = .ok (.getfield 18, 3) := by decide +kernel
theorem dX11_term_4 : decode cX11_term 4 = .ok (.invokevirtual 104, 3) := by decide +kernel
theorem dX11_term_7 : decode cX11_term 7 = .ok (.bipush 8, 2) := by decide +kernel
theorem dX11_term_9 : decode cX11_term 9 = .ok (.if_icmp .lt 6, 3) := by decide +kernel
theorem dX11_term_12 : decode cX11_term 12 = .ok (.bipush (-4), 2) := by decide +kernel
theorem dX11_term_14 : decode cX11_term 14 = .ok (.ireturn, 1) := by decide +kernel
theorem dX11_term_15 : decode cX11_term 15 = .ok (.aload_n 0, 1) := by decide +kernel
theorem dX11_term_16 : decode cX11_term 16 = .ok (.getfield 37, 3) := by decide +kernel
theorem dX11_term_19 : decode cX11_term 19 = .ok (.invokevirtual 207, 3) := by decide +kernel
theorem dX11_term_22 : decode cX11_term 22 = .ok (.astore_n 1, 1) := by decide +kernel
theorem dX11_term_23 : decode cX11_term 23 = .ok (.aload_n 0, 1) := by decide +kernel
theorem dX11_term_24 : decode cX11_term 24 = .ok (.getfield 37, 3) := by decide +kernel
theorem dX11_term_27 : decode cX11_term 27 = .ok (.getfield 211, 3) := by decide +kernel
theorem dX11_term_30 : decode cX11_term 30 = .ok (.istore_n 2, 1) := by decide +kernel
theorem dX11_term_31 : decode cX11_term 31 = .ok (.aload_n 0, 1) := by decide +kernel
theorem dX11_term_32 : decode cX11_term 32 = .ok (.getfield 37, 3) := by decide +kernel
theorem dX11_term_35 : decode cX11_term 35 = .ok (.iconst 0, 1) := by decide +kernel
theorem dX11_term_36 : decode cX11_term 36 = .ok (.putfield 204, 3) := by decide +kernel
theorem dX11_term_39 : decode cX11_term 39 = .ok (.aload_n 1, 1) := by decide +kernel
theorem dX11_term_40 : decode cX11_term 40 = .ok (.ifnonnull 8, 3) := by decide +kernel
theorem dX11_term_43 : decode cX11_term 43 = .ok (.bipush (-10), 2) := by decide +kernel
theorem dX11_term_45 : decode cX11_term 45 = .ok (.iload_n 2, 1) := by decide +kernel
theorem dX11_term_46 : decode cX11_term 46 = .ok (.isub, 1) := by decide +kernel
theorem dX11_term_47 : decode cX11_term 47 = .ok (.ireturn, 1) := by decide +kernel
theorem dX11_term_48 : decode cX11_term 48 = .ok (.aload_n 1, 1) := by decide +kernel
theorem dX11_term_49 : decode cX11_term 49 = .ok (.invokevirtual 214, 3) := by decide +kernel
theorem dX11_term_52 : decode cX11_term 52 = .ok (.ifCond .ne 6, 3) := by decide +kernel
theorem dX11_term_55 : decode cX11_term 55 = .ok (.bipush (-2), 2) := by decide +kernel
theorem dX11_term_57 : decode cX11_term 57 = .ok (.ireturn, 1) := by decide +kernel
theorem dX11_term_58 : decode cX11_term 58 = .ok (.aload_n 0, 1) := by decide +kernel
theorem dX11_term_59 : decode cX11_term 59 = .ok (.getfield 18, 3) := by decide +kernel
theorem dX11_term_62 : decode cX11_term 62 = .ok (.aload_n 1, 1) := by decide +kernel
theorem dX11_term_63 : decode cX11_term 63 = .ok (.invokevirtual 113, 3) := by decide +kernel
theorem dX11_term_66 : decode cX11_term 66 = .ok (.pop, 1) := by decide +kernel
theorem dX11_term_67 : decode cX11_term 67 = .ok (.aload_n 0, 1) := by decide +kernel
theorem dX11_term_68 : decode cX11_term 68 = .ok (.getfield 18, 3) := by decide +kernel
theorem dX11_term_71 : decode cX11_term 71 = .ok (.invokevirtual 104, 3) := by decide +kernel
theorem dX11_term_74 : decode cX11_term 74 = .ok (.iconst 1, 1) := by decide +kernel
theorem dX11_term_75 : decode cX11_term 75 = .ok (.isub, 1) := by decide +kernel
theorem dX11_term_76 : decode cX11_term 76 = .ok (.ireturn, 1) := by decide +kernel
abbrev M_X11_term : MI := (RX11, cX11_term, 3, (some .int), ({ frames := 9, cells := 7, slots := 71, locals := 194 } : Room), 7, 71, false)
def f_X11_term (h0 : AH) (N : Nat) (p0 : Nat) : Option (Int32 × AH) := if kd h0 p0 = 12 + 1 then (xgr h0 p0 12 1).bind fun v1 => (f_Jx4a65c_size_8abf5 h0 v1).bind fun v2 => (if v2 < 8 then (xgr h0 p0 12 5).bind fun v4 => (gl h0 [p0]).bind fun _ => (f_X8_read h0 N v4).bind fun q5 => q5.1.elim ((xgr q5.2 p0 12 5).bind fun v7 => (xgi q5.2 v7 9 2).bind fun v8 => (xgr q5.2 p0 12 5).bind fun v9 => (xpi q5.2 v9 9 1 0).bind fun h10 => some (((-10) - v8), h10)) fun w6 => (xgr q5.2 p0 12 5).bind fun v11 => (xgi q5.2 v11 9 2).bind fun v12 => (xgr q5.2 p0 12 5).bind fun v13 => (xpi q5.2 v13 9 1 0).bind fun h14 => (f_X10_isSound h14 N w6).bind fun v15 => (if v15 = 0 then some ((-2), h14) else (xgr h14 p0 12 1).bind fun v17 => (gl h14 [w6, p0]).bind fun _ => (f_Jx4a65c_add_9ea2d h14 v17 w6).bind fun q18 => (xgr q18.2 p0 12 1).bind fun v19 => (f_Jx4a65c_size_8abf5 q18.2 v19).bind fun v20 => some ((v20 - 1), q18.2)) else some ((-4), h0)) else none
theorem g_X11_term {h0 : AH} {N : Nat} {p0 : Nat} {x : (Int32 × AH)} (e : f_X11_term h0 N p0 = some x) : kd h0 p0 = 12 + 1 := by
  unfold f_X11_term at e
  by_cases hk : kd h0 p0 = 12 + 1
  · exact hk
  · rw [if_neg hk] at e
    cases e
theorem km_X11_term : KM yX11_term M_X11_term 0 := ⟨in_tb 441 (by decide +kernel) rfl, in_tb 1 (by decide +kernel) rfl, by decide +kernel, rfl, rfl⟩
section
variable {l : Launch} {g : GG}
end
set_option maxRecDepth 100000 in
set_option maxHeartbeats 4000000 in
theorem c_X11_term (l : Launch) (g : GG) (h0 : AH) (N : Nat) (p0 : Nat) : CN l g yX11_term M_X11_term true [.ref p0] h0 rSi (f_X11_term h0 N p0) := by
  refine CN.of (by decide) rfl (fun hh => by first | rfl | cases hh) (Nat.le_of_ble_eq_true rfl) ?_
  unfold f_X11_term
  refine a_gd (fun hkd => ?_)
  refine a_aload_n dX11_term_0 rfl 0 rfl ?_
  refine a_getr kc12 1 dX11_term_1 (by decide) rfl w_fieldLink_RainCover_18 (fun v1 => ?_)
  refine a_cV_Pi (r := v1) (ci := 0) (as := []) (st := []) dX11_term_4 (c_Jx4a65c_size_8abf5 l g h0 v1) rfl km_Jx4a65c_size_8abf5 (hm_Jx4a65c_size_8abf5) rfl (by decide) rfl (fun _ ee => g_Jx4a65c_size_8abf5 ee) w_methodLink_RainCover_104 w_instanceMethod_java_util_ArrayList_size___I w_selects_java_util_ArrayList_java_util_ArrayList_size___I_java_util_ArrayList_size___I ⟨⟨by decide, by decide⟩, ⟨by decide, by decide⟩⟩ (Nat.le_of_ble_eq_true rfl) (fun v2 => ?_)
  refine a_bipush (v := 8) dX11_term_7 (by decide) ?_
  refine a_icmp_lt 15 dX11_term_9 (by decide) (fun c3 => ?_) (fun c3 => ?_)
  · refine a_aload_n dX11_term_15 rfl 0 rfl ?_
    refine a_getr kc12 5 dX11_term_16 (by decide) rfl w_fieldLink_RainCover_37 (fun v4 => ?_)
    refine a_xV_Sn (r := v4) (ci := 9) (as := []) (st := []) dX11_term_19 [p0] rfl (c_X8_read l g h0 N v4) rfl km_X8_read rfl (by decide) rfl (fun _ ee => g_X8_read ee) w_methodLink_RainCover_207 w_instanceMethod_RainCover_Tape_read___LRainCover_Term_ w_selects_RainCover_Tape_RainCover_Tape_read___LRainCover_Term__RainCover_Tape_read___LRainCover_Term_ ⟨⟨by decide, by decide⟩, ⟨by decide, by decide⟩⟩ (Nat.le_of_ble_eq_true rfl) (fun q5 => ?_)
    refine a_widen 6 31 (by decide) (by decide) ?_
    refine a_opt ?_ (fun w6 => ?_)
    · refine a_nstore_n (lc2 := [(1, .null), (0, .ref p0)]) dX11_term_22 rfl (by decide) rfl ?_
      refine a_aload_n dX11_term_23 rfl 1 rfl ?_
      refine a_getr kc12 5 dX11_term_24 (by decide) rfl w_fieldLink_RainCover_37 (fun v7 => ?_)
      refine a_geti kc9 2 dX11_term_27 (by decide) rfl w_fieldLink_RainCover_211 (fun v8 => ?_)
      refine a_istore_n (lc2 := [(2, .int v8), (1, .null), (0, .ref p0)]) dX11_term_30 rfl (by decide) rfl ?_
      refine a_aload_n dX11_term_31 rfl 2 rfl ?_
      refine a_getr kc12 5 dX11_term_32 (by decide) rfl w_fieldLink_RainCover_37 (fun v9 => ?_)
      refine a_iconst (v := 0) dX11_term_35 (by decide) ?_
      refine a_puti kc9 1 dX11_term_36 (by decide) rfl w_fieldLink_RainCover_204 rfl rfl (fun h10 => ?_)
      refine a_nload_n dX11_term_39 rfl 1 rfl ?_
      refine a_ifnonnullN dX11_term_40 ?_
      refine a_bipush (v := (-10)) dX11_term_43 (by decide) ?_
      refine a_iload_n dX11_term_45 rfl 0 rfl ?_
      refine a_isub dX11_term_46 ?_
      exact a_iret dX11_term_47 rfl rfl (by decide) (by decide)
    · refine a_astore_n (lc2 := [(1, .ref w6), (0, .ref p0)]) dX11_term_22 rfl (by decide) rfl ?_
      refine a_aload_n dX11_term_23 rfl 1 rfl ?_
      refine a_getr kc12 5 dX11_term_24 (by decide) rfl w_fieldLink_RainCover_37 (fun v11 => ?_)
      refine a_geti kc9 2 dX11_term_27 (by decide) rfl w_fieldLink_RainCover_211 (fun v12 => ?_)
      refine a_istore_n (lc2 := [(2, .int v12), (1, .ref w6), (0, .ref p0)]) dX11_term_30 rfl (by decide) rfl ?_
      refine a_aload_n dX11_term_31 rfl 2 rfl ?_
      refine a_getr kc12 5 dX11_term_32 (by decide) rfl w_fieldLink_RainCover_37 (fun v13 => ?_)
      refine a_iconst (v := 0) dX11_term_35 (by decide) ?_
      refine a_puti kc9 1 dX11_term_36 (by decide) rfl w_fieldLink_RainCover_204 rfl rfl (fun h14 => ?_)
      refine a_aload_n dX11_term_39 rfl 1 rfl ?_
      refine a_ifnonnull 48 dX11_term_40 (by decide) ?_
      refine a_aload_n dX11_term_48 rfl 1 rfl ?_
      refine a_cV_Pi (r := w6) (ci := 11) (as := []) (st := []) dX11_term_49 (c_X10_isSound l g h14 N w6) rfl km_X10_isSound (hm_X10_isSound) rfl (by decide) rfl (fun _ ee => g_X10_isSound ee) w_methodLink_RainCover_214 w_instanceMethod_RainCover_Term_isSound___Z w_selects_RainCover_Term_RainCover_Term_isSound___Z_RainCover_Term_isSound___Z ⟨⟨by decide, by decide⟩, ⟨by decide, by decide⟩⟩ (Nat.le_of_ble_eq_true rfl) (fun v15 => ?_)
      refine a_if_ne 58 dX11_term_52 (by decide) (fun c16 => ?_) (fun c16 => ?_)
      · refine a_bipush (v := (-2)) dX11_term_55 (by decide) ?_
        exact a_iret dX11_term_57 rfl rfl (by decide) (by decide)
      · refine a_aload_n dX11_term_58 rfl 2 rfl ?_
        refine a_getr kc12 1 dX11_term_59 (by decide) rfl w_fieldLink_RainCover_18 (fun v17 => ?_)
        refine a_aload_n dX11_term_62 rfl 1 rfl ?_
        refine a_xV_Si (r := v17) (ci := 0) (as := [.ref w6]) (st := []) dX11_term_63 [w6, p0] rfl (c_Jx4a65c_add_9ea2d l g h14 v17 w6) rfl km_Jx4a65c_add_9ea2d rfl (by decide) rfl (fun _ ee => g_Jx4a65c_add_9ea2d ee) w_methodLink_RainCover_113 w_instanceMethod_java_util_ArrayList_add__Ljava_lang_Object__Z w_selects_java_util_ArrayList_java_util_ArrayList_add__Ljava_lang_Object__Z_java_util_ArrayList_add__Ljava_lang_Object__Z ⟨⟨by decide, by decide⟩, ⟨by decide, by decide⟩⟩ (Nat.le_of_ble_eq_true rfl) (fun q18 => ?_)
        refine a_widen 7 71 (by decide) (by decide) ?_
        refine a_pop dX11_term_66 rfl ?_
        refine a_aload_n dX11_term_67 rfl 2 rfl ?_
        refine a_getr kc12 1 dX11_term_68 (by decide) rfl w_fieldLink_RainCover_18 (fun v19 => ?_)
        refine a_cV_Pi (r := v19) (ci := 0) (as := []) (st := []) dX11_term_71 (c_Jx4a65c_size_8abf5 l g q18.2 v19) rfl km_Jx4a65c_size_8abf5 (hm_Jx4a65c_size_8abf5) rfl (by decide) rfl (fun _ ee => g_Jx4a65c_size_8abf5 ee) w_methodLink_RainCover_104 w_instanceMethod_java_util_ArrayList_size___I w_selects_java_util_ArrayList_java_util_ArrayList_size___I_java_util_ArrayList_size___I ⟨⟨by decide, by decide⟩, ⟨by decide, by decide⟩⟩ (Nat.le_of_ble_eq_true rfl) (fun v20 => ?_)
        refine a_iconst (v := 1) dX11_term_74 (by decide) ?_
        refine a_isub dX11_term_75 ?_
        exact a_iret dX11_term_76 rfl rfl (by decide) (by decide)
  · refine a_bipush (v := (-4)) dX11_term_12 (by decide) ?_
    exact a_iret dX11_term_14 rfl rfl (by decide) (by decide)
theorem dX11_isTerm_0 : decode cX11_isTerm 0 = .ok (.iload_n 1, 1) := by decide +kernel
theorem dX11_isTerm_1 : decode cX11_isTerm 1 = .ok (.iconst 0, 1) := by decide +kernel
theorem dX11_isTerm_2 : decode cX11_isTerm 2 = .ok (.aload_n 0, 1) := by decide +kernel
theorem dX11_isTerm_3 : decode cX11_isTerm 3 = .ok (.getfield 18, 3) := by decide +kernel
theorem dX11_isTerm_6 : decode cX11_isTerm 6 = .ok (.invokevirtual 104, 3) := by decide +kernel
theorem dX11_isTerm_9 : decode cX11_isTerm 9 = .ok (.iconst 1, 1) := by decide +kernel
theorem dX11_isTerm_10 : decode cX11_isTerm 10 = .ok (.isub, 1) := by decide +kernel
theorem dX11_isTerm_11 : decode cX11_isTerm 11 = .ok (.invokestatic 120, 3) := by decide +kernel
theorem dX11_isTerm_14 : decode cX11_isTerm 14 = .ok (.ireturn, 1) := by decide +kernel
abbrev M_X11_isTerm : MI := (RX11, cX11_isTerm, 2, (some .boolean), ({ frames := 1, cells := 0, slots := 0, locals := 22 } : Room), 0, 0, false)
def f_X11_isTerm (h : AH) (p0 : Nat) (p1 : Int32) : Option Int32 := if kd h p0 = 12 + 1 then (xgr h p0 12 1).bind fun v1 => (f_Jx4a65c_size_8abf5 h v1).bind fun v2 => (f_X11_within h p1 0 (v2 - 1)).bind fun v3 => (if v3 = 0 ∨ v3 = 1 then some v3 else none) else none
theorem g_X11_isTerm {h : AH} {p0 : Nat} {p1 : Int32} {x : Int32} (e : f_X11_isTerm h p0 p1 = some x) : kd h p0 = 12 + 1 := by
  unfold f_X11_isTerm at e
  by_cases hk : kd h p0 = 12 + 1
  · exact hk
  · rw [if_neg hk] at e
    cases e
theorem km_X11_isTerm : KM yX11_isTerm M_X11_isTerm 1 := ⟨in_tb 599 (by decide +kernel) rfl, in_tb 1 (by decide +kernel) rfl, by decide +kernel, rfl, rfl⟩
theorem hm_X11_isTerm : M_X11_isTerm.2.2.2.2.2.1 = 0 ∧ M_X11_isTerm.2.2.2.2.2.2.1 = 0 := ⟨rfl, rfl⟩
section
variable {l : Launch} {g : GG}
end
set_option maxRecDepth 100000 in
set_option maxHeartbeats 4000000 in
theorem c_X11_isTerm (l : Launch) (g : GG) (h : AH) (p0 : Nat) (p1 : Int32) : CN l g yX11_isTerm M_X11_isTerm false [.ref p0, .int p1] h ((rPi h)) (f_X11_isTerm h p0 p1) := by
  refine CN.of (by decide) rfl (fun hh => by first | rfl | cases hh) (Nat.le_of_ble_eq_true rfl) ?_
  unfold f_X11_isTerm
  refine a_gd (fun hkd => ?_)
  refine a_iload_n dX11_isTerm_0 rfl 1 rfl ?_
  refine a_iconst (v := 0) dX11_isTerm_1 (by decide) ?_
  refine a_aload_n dX11_isTerm_2 rfl 0 rfl ?_
  refine a_getr kc12 1 dX11_isTerm_3 (by decide) rfl w_fieldLink_RainCover_18 (fun v1 => ?_)
  refine a_cV_Pi (r := v1) (ci := 0) (as := []) (st := [.int 0, .int p1]) dX11_isTerm_6 (c_Jx4a65c_size_8abf5 l g h v1) rfl km_Jx4a65c_size_8abf5 (hm_Jx4a65c_size_8abf5) rfl (by decide) rfl (fun _ ee => g_Jx4a65c_size_8abf5 ee) w_methodLink_RainCover_104 w_instanceMethod_java_util_ArrayList_size___I w_selects_java_util_ArrayList_java_util_ArrayList_size___I_java_util_ArrayList_size___I ⟨⟨by decide, by decide⟩, ⟨by decide, by decide⟩⟩ (Nat.le_of_ble_eq_true rfl) (fun v2 => ?_)
  refine a_iconst (v := 1) dX11_isTerm_9 (by decide) ?_
  refine a_isub dX11_isTerm_10 ?_
  refine a_cS_Pi (as := [.int p1, .int 0, .int (v2 - 1)]) (st := []) dX11_isTerm_11 (c_X11_within l g h p1 0 (v2 - 1)) rfl km_X11_within (hm_X11_within) w_methodLink_RainCover_120 w_static_RainCover_within__III_Z ⟨⟨by decide, by decide⟩, ⟨by decide, by decide⟩⟩ (Nat.le_of_ble_eq_true rfl) (fun v3 => ?_)
  exact a_gd (fun c4 => a_zret dX11_isTerm_14 rfl c4 rfl (by decide) (by decide))
theorem dX10_sumFrom_0 : decode cX10_sumFrom 0 = .ok (.iconst 0, 1) := by decide +kernel
theorem dX10_sumFrom_1 : decode cX10_sumFrom 1 = .ok (.istore_n 3, 1) := by decide +kernel
theorem dX10_sumFrom_2 : decode cX10_sumFrom 2 = .ok (.iload_n 1, 1) := by decide +kernel
theorem dX10_sumFrom_3 : decode cX10_sumFrom 3 = .ok (.istore 4, 2) := by decide +kernel
theorem dX10_sumFrom_5 : decode cX10_sumFrom 5 = .ok (.iload 4, 2) := by decide +kernel
theorem dX10_sumFrom_7 : decode cX10_sumFrom 7 = .ok (.iload_n 2, 1) := by decide +kernel
theorem dX10_sumFrom_8 : decode cX10_sumFrom 8 = .ok (.if_icmp .gt 16, 3) := by decide +kernel
theorem dX10_sumFrom_11 : decode cX10_sumFrom 11 = .ok (.iload_n 3, 1) := by decide +kernel
theorem dX10_sumFrom_12 : decode cX10_sumFrom 12 = .ok (.aload_n 0, 1) := by decide +kernel
theorem dX10_sumFrom_13 : decode cX10_sumFrom 13 = .ok (.iload 4, 2) := by decide +kernel
theorem dX10_sumFrom_15 : decode cX10_sumFrom 15 = .ok (.iaload, 1) := by decide +kernel
theorem dX10_sumFrom_16 : decode cX10_sumFrom 16 = .ok (.iadd, 1) := by decide +kernel
theorem dX10_sumFrom_17 : decode cX10_sumFrom 17 = .ok (.istore_n 3, 1) := by decide +kernel
theorem dX10_sumFrom_18 : decode cX10_sumFrom 18 = .ok (.iinc 4 1, 3) := by decide +kernel
theorem dX10_sumFrom_21 : decode cX10_sumFrom 21 = .ok (.goto (-16), 3) := by decide +kernel
theorem dX10_sumFrom_24 : decode cX10_sumFrom 24 = .ok (.iload_n 3, 1) := by decide +kernel
theorem dX10_sumFrom_25 : decode cX10_sumFrom 25 = .ok (.ireturn, 1) := by decide +kernel
abbrev M_X10_sumFrom : MI := (RX10, cX10_sumFrom, 5, (some .int), ({ frames := 0, cells := 0, slots := 0, locals := 0 } : Room), 0, 0, false)
def f_X10_sumFrom_b5_body (h : AH) (N : Nat) (K5 : Nat → Int32 → Int32 → Int32 → Option Int32) (x0 : Nat) (x2 : Int32) (x3 : Int32) (x4 : Int32) : Option Int32 := (if x2 < x4 then some x3 else (xia h x0 x4).bind fun v2 => K5 x0 x2 (x3 + v2) (x4 + 1))
def f_X10_sumFrom_b5 (h : AH) (N : Nat) : Nat → Nat → Int32 → Int32 → Int32 → Option Int32
  | 0, _, _, _, _ => none
  | n + 1, x0, x2, x3, x4 => f_X10_sumFrom_b5_body h N  (f_X10_sumFrom_b5 h N  n) x0 x2 x3 x4
def f_X10_sumFrom (h : AH) (N : Nat) (p0 : Nat) (p1 : Int32) (p2 : Int32) : Option Int32 := f_X10_sumFrom_b5 h N N p0 p2 0 p1
theorem km_X10_sumFrom : KM yX10_sumFrom M_X10_sumFrom 3 := ⟨in_tb 618 (by decide +kernel) rfl, in_tb 17 (by decide +kernel) rfl, by decide +kernel, rfl, rfl⟩
theorem hm_X10_sumFrom : M_X10_sumFrom.2.2.2.2.2.1 = 0 ∧ M_X10_sumFrom.2.2.2.2.2.2.1 = 0 := ⟨rfl, rfl⟩
section
variable {l : Launch} {g : GG}
set_option maxRecDepth 100000 in
set_option maxHeartbeats 4000000 in
theorem t_X10_sumFrom_b5_body (h : AH) (N : Nat) (K5 : Nat → Int32 → Int32 → Int32 → Option Int32) (hK5 : ∀ (z0 : Nat) (z1 : Int32) (z2 : Int32) (z3 : Int32), AO l g M_X10_sumFrom false h 5 [(0, .ref z0), (2, .int z1), (3, .int z2), (4, .int z3)] [] h 0 0 (rPi h) (K5 z0 z1 z2 z3)) (x0 : Nat) (x2 : Int32) (x3 : Int32) (x4 : Int32) : AO l g M_X10_sumFrom false h 5 [(0, .ref x0), (2, .int x2), (3, .int x3), (4, .int x4)] [] h 0 0 (rPi h) (f_X10_sumFrom_b5_body h N K5 x0 x2 x3 x4) := by
  unfold f_X10_sumFrom_b5_body
  refine a_iload dX10_sumFrom_5 3 rfl ?_
  refine a_iload_n dX10_sumFrom_7 rfl 1 rfl ?_
  refine a_icmp_gt 24 dX10_sumFrom_8 (by decide) (fun c1 => ?_) (fun c1 => ?_)
  · refine a_iload_n dX10_sumFrom_24 rfl 2 rfl ?_
    exact a_iret dX10_sumFrom_25 rfl rfl (by decide) (by decide)
  · refine a_iload_n dX10_sumFrom_11 rfl 2 rfl ?_
    refine a_aload_n dX10_sumFrom_12 rfl 0 rfl ?_
    refine a_iload dX10_sumFrom_13 3 rfl ?_
    refine a_iald dX10_sumFrom_15 (fun v2 => ?_)
    refine a_iadd dX10_sumFrom_16 ?_
    refine a_istore_n (lc2 := [(3, .int (x3 + v2)), (0, .ref x0), (2, .int x2), (4, .int x4)]) dX10_sumFrom_17 rfl (by decide) rfl ?_
    refine a_iinc (q := 3) (v := (x4 + 1)) (lc2 := [(4, .int (x4 + 1)), (3, .int (x3 + v2)), (0, .ref x0), (2, .int x2)]) dX10_sumFrom_18 rfl rfl (by decide) rfl ?_
    refine a_goto 5 dX10_sumFrom_21 (by decide) ?_
    refine a_pick (lc2 := [(0, .ref x0), (2, .int x2), (3, .int (x3 + v2)), (4, .int (x4 + 1))]) [2, 3, 1, 0] rfl ?_
    exact hK5 x0 x2 (x3 + v2) (x4 + 1)
set_option maxRecDepth 100000 in
set_option maxHeartbeats 4000000 in
theorem t_X10_sumFrom_b5 (h : AH) (N : Nat) : ∀ (n : Nat) (x0 : Nat) (x2 : Int32) (x3 : Int32) (x4 : Int32) , AO l g M_X10_sumFrom false h 5 [(0, .ref x0), (2, .int x2), (3, .int x3), (4, .int x4)] [] h 0 0 (rPi h) (f_X10_sumFrom_b5 h N  n x0 x2 x3 x4) := by
  intro n
  induction n with
  | zero => intro x0 x2 x3 x4; exact a_eq rfl a_none
  | succ n ih => intro x0 x2 x3 x4; exact a_eq rfl (t_X10_sumFrom_b5_body h N  (f_X10_sumFrom_b5 h N  n) ih x0 x2 x3 x4)
end
set_option maxRecDepth 100000 in
set_option maxHeartbeats 4000000 in
theorem c_X10_sumFrom (l : Launch) (g : GG) (h : AH) (N : Nat) (p0 : Nat) (p1 : Int32) (p2 : Int32) : CN l g yX10_sumFrom M_X10_sumFrom false [.ref p0, .int p1, .int p2] h ((rPi h)) (f_X10_sumFrom h N p0 p1 p2) := by
  refine CN.of (by decide) rfl (fun hh => by first | rfl | cases hh) (Nat.le_of_ble_eq_true rfl) ?_
  unfold f_X10_sumFrom
  refine a_iconst (v := 0) dX10_sumFrom_0 (by decide) ?_
  refine a_istore_n (lc2 := [(3, .int 0), (0, .ref p0), (1, .int p1), (2, .int p2)]) dX10_sumFrom_1 rfl (by decide) rfl ?_
  refine a_iload_n dX10_sumFrom_2 rfl 2 rfl ?_
  refine a_istore (lc2 := [(4, .int p1), (3, .int 0), (0, .ref p0), (1, .int p1), (2, .int p2)]) dX10_sumFrom_3 (by decide) rfl ?_
  refine a_pick (lc2 := [(0, .ref p0), (2, .int p2), (3, .int 0), (4, .int p1)]) [2, 4, 1, 0] rfl ?_
  exact t_X10_sumFrom_b5 h N N p0 p2 0 p1
theorem dX10_longestDry_0 : decode cX10_longestDry 0 = .ok (.iconst 0, 1) := by decide +kernel
theorem dX10_longestDry_1 : decode cX10_longestDry 1 = .ok (.istore 4, 2) := by decide +kernel
theorem dX10_longestDry_3 : decode cX10_longestDry 3 = .ok (.iconst 0, 1) := by decide +kernel
theorem dX10_longestDry_4 : decode cX10_longestDry 4 = .ok (.istore 5, 2) := by decide +kernel
theorem dX10_longestDry_6 : decode cX10_longestDry 6 = .ok (.iload_n 1, 1) := by decide +kernel
theorem dX10_longestDry_7 : decode cX10_longestDry 7 = .ok (.istore 6, 2) := by decide +kernel
theorem dX10_longestDry_9 : decode cX10_longestDry 9 = .ok (.iload 6, 2) := by decide +kernel
theorem dX10_longestDry_11 : decode cX10_longestDry 11 = .ok (.iload_n 2, 1) := by decide +kernel
theorem dX10_longestDry_12 : decode cX10_longestDry 12 = .ok (.if_icmp .gt 38, 3) := by decide +kernel
theorem dX10_longestDry_15 : decode cX10_longestDry 15 = .ok (.aload_n 0, 1) := by decide +kernel
theorem dX10_longestDry_16 : decode cX10_longestDry 16 = .ok (.iload 6, 2) := by decide +kernel
theorem dX10_longestDry_18 : decode cX10_longestDry 18 = .ok (.iaload, 1) := by decide +kernel
theorem dX10_longestDry_19 : decode cX10_longestDry 19 = .ok (.iload_n 3, 1) := by decide +kernel
theorem dX10_longestDry_20 : decode cX10_longestDry 20 = .ok (.if_icmp .ge 10, 3) := by decide +kernel
theorem dX10_longestDry_23 : decode cX10_longestDry 23 = .ok (.iload 5, 2) := by decide +kernel
theorem dX10_longestDry_25 : decode cX10_longestDry 25 = .ok (.iconst 1, 1) := by decide +kernel
theorem dX10_longestDry_26 : decode cX10_longestDry 26 = .ok (.iadd, 1) := by decide +kernel
theorem dX10_longestDry_27 : decode cX10_longestDry 27 = .ok (.goto 4, 3) := by decide +kernel
theorem dX10_longestDry_30 : decode cX10_longestDry 30 = .ok (.iconst 0, 1) := by decide +kernel
theorem dX10_longestDry_31 : decode cX10_longestDry 31 = .ok (.istore 5, 2) := by decide +kernel
theorem dX10_longestDry_33 : decode cX10_longestDry 33 = .ok (.iload 5, 2) := by decide +kernel
theorem dX10_longestDry_35 : decode cX10_longestDry 35 = .ok (.iload 4, 2) := by decide +kernel
theorem dX10_longestDry_37 : decode cX10_longestDry 37 = .ok (.if_icmp .le 7, 3) := by decide +kernel
theorem dX10_longestDry_40 : decode cX10_longestDry 40 = .ok (.iload 5, 2) := by decide +kernel
theorem dX10_longestDry_42 : decode cX10_longestDry 42 = .ok (.istore 4, 2) := by decide +kernel
theorem dX10_longestDry_44 : decode cX10_longestDry 44 = .ok (.iinc 6 1, 3) := by decide +kernel
theorem dX10_longestDry_47 : decode cX10_longestDry 47 = .ok (.goto (-38), 3) := by decide +kernel
theorem dX10_longestDry_50 : decode cX10_longestDry 50 = .ok (.iload 4, 2) := by decide +kernel
theorem dX10_longestDry_52 : decode cX10_longestDry 52 = .ok (.ireturn, 1) := by decide +kernel
abbrev M_X10_longestDry : MI := (RX10, cX10_longestDry, 7, (some .int), ({ frames := 0, cells := 0, slots := 0, locals := 0 } : Room), 0, 0, false)
def f_X10_longestDry_b44 (h : AH) (N : Nat) (K9 : Nat → Int32 → Int32 → Int32 → Int32 → Int32 → Option Int32) (x0 : Nat) (x2 : Int32) (x3 : Int32) (x4 : Int32) (x5 : Int32) (x6 : Int32) : Option Int32 := K9 x0 x2 x3 x4 x5 (x6 + 1)
def f_X10_longestDry_b31 (h : AH) (N : Nat) (K9 : Nat → Int32 → Int32 → Int32 → Int32 → Int32 → Option Int32) (x0 : Nat) (x2 : Int32) (x3 : Int32) (x4 : Int32) (x6 : Int32) (s5 : Int32) : Option Int32 := (if s5 ≤ x4 then f_X10_longestDry_b44 h N K9 x0 x2 x3 x4 s5 x6 else f_X10_longestDry_b44 h N K9 x0 x2 x3 s5 s5 x6)
def f_X10_longestDry_b9_body (h : AH) (N : Nat) (K9 : Nat → Int32 → Int32 → Int32 → Int32 → Int32 → Option Int32) (x0 : Nat) (x2 : Int32) (x3 : Int32) (x4 : Int32) (x5 : Int32) (x6 : Int32) : Option Int32 := (if x2 < x6 then some x4 else (xia h x0 x6).bind fun v2 => (if x3 ≤ v2 then f_X10_longestDry_b31 h N K9 x0 x2 x3 x4 x6 0 else f_X10_longestDry_b31 h N K9 x0 x2 x3 x4 x6 (x5 + 1)))
def f_X10_longestDry_b9 (h : AH) (N : Nat) : Nat → Nat → Int32 → Int32 → Int32 → Int32 → Int32 → Option Int32
  | 0, _, _, _, _, _, _ => none
  | n + 1, x0, x2, x3, x4, x5, x6 => f_X10_longestDry_b9_body h N  (f_X10_longestDry_b9 h N  n) x0 x2 x3 x4 x5 x6
def f_X10_longestDry (h : AH) (N : Nat) (p0 : Nat) (p1 : Int32) (p2 : Int32) (p3 : Int32) : Option Int32 := f_X10_longestDry_b9 h N N p0 p2 p3 0 0 p1
theorem km_X10_longestDry : KM yX10_longestDry M_X10_longestDry 4 := ⟨in_tb 621 (by decide +kernel) rfl, in_tb 17 (by decide +kernel) rfl, by decide +kernel, rfl, rfl⟩
theorem hm_X10_longestDry : M_X10_longestDry.2.2.2.2.2.1 = 0 ∧ M_X10_longestDry.2.2.2.2.2.2.1 = 0 := ⟨rfl, rfl⟩
section
variable {l : Launch} {g : GG}
set_option maxRecDepth 100000 in
set_option maxHeartbeats 4000000 in
theorem t_X10_longestDry_b44 (h : AH) (N : Nat) (K9 : Nat → Int32 → Int32 → Int32 → Int32 → Int32 → Option Int32) (hK9 : ∀ (z0 : Nat) (z1 : Int32) (z2 : Int32) (z3 : Int32) (z4 : Int32) (z5 : Int32), AO l g M_X10_longestDry false h 9 [(0, .ref z0), (2, .int z1), (3, .int z2), (4, .int z3), (5, .int z4), (6, .int z5)] [] h 0 0 (rPi h) (K9 z0 z1 z2 z3 z4 z5)) (x0 : Nat) (x2 : Int32) (x3 : Int32) (x4 : Int32) (x5 : Int32) (x6 : Int32) : AO l g M_X10_longestDry false h 44 [(0, .ref x0), (2, .int x2), (3, .int x3), (4, .int x4), (5, .int x5), (6, .int x6)] [] h 0 0 (rPi h) (f_X10_longestDry_b44 h N K9 x0 x2 x3 x4 x5 x6) := by
  unfold f_X10_longestDry_b44
  refine a_iinc (q := 5) (v := (x6 + 1)) (lc2 := [(6, .int (x6 + 1)), (0, .ref x0), (2, .int x2), (3, .int x3), (4, .int x4), (5, .int x5)]) dX10_longestDry_44 rfl rfl (by decide) rfl ?_
  refine a_goto 9 dX10_longestDry_47 (by decide) ?_
  refine a_pick (lc2 := [(0, .ref x0), (2, .int x2), (3, .int x3), (4, .int x4), (5, .int x5), (6, .int (x6 + 1))]) [1, 2, 3, 4, 5, 0] rfl ?_
  exact hK9 x0 x2 x3 x4 x5 (x6 + 1)
set_option maxRecDepth 100000 in
set_option maxHeartbeats 4000000 in
theorem t_X10_longestDry_b31 (h : AH) (N : Nat) (K9 : Nat → Int32 → Int32 → Int32 → Int32 → Int32 → Option Int32) (hK9 : ∀ (z0 : Nat) (z1 : Int32) (z2 : Int32) (z3 : Int32) (z4 : Int32) (z5 : Int32), AO l g M_X10_longestDry false h 9 [(0, .ref z0), (2, .int z1), (3, .int z2), (4, .int z3), (5, .int z4), (6, .int z5)] [] h 0 0 (rPi h) (K9 z0 z1 z2 z3 z4 z5)) (x0 : Nat) (x2 : Int32) (x3 : Int32) (x4 : Int32) (x6 : Int32) (s5 : Int32) : AO l g M_X10_longestDry false h 31 [(0, .ref x0), (2, .int x2), (3, .int x3), (4, .int x4), (6, .int x6)] [.int s5] h 0 0 (rPi h) (f_X10_longestDry_b31 h N K9 x0 x2 x3 x4 x6 s5) := by
  unfold f_X10_longestDry_b31
  refine a_istore (lc2 := [(5, .int s5), (0, .ref x0), (2, .int x2), (3, .int x3), (4, .int x4), (6, .int x6)]) dX10_longestDry_31 (by decide) rfl ?_
  refine a_iload dX10_longestDry_33 0 rfl ?_
  refine a_iload dX10_longestDry_35 4 rfl ?_
  refine a_icmp_le 44 dX10_longestDry_37 (by decide) (fun c4 => ?_) (fun c4 => ?_)
  · refine a_pick (lc2 := [(0, .ref x0), (2, .int x2), (3, .int x3), (4, .int x4), (5, .int s5), (6, .int x6)]) [1, 2, 3, 4, 0, 5] rfl ?_
    exact t_X10_longestDry_b44 h N K9 hK9 x0 x2 x3 x4 s5 x6
  · refine a_iload dX10_longestDry_40 0 rfl ?_
    refine a_istore (lc2 := [(4, .int s5), (5, .int s5), (0, .ref x0), (2, .int x2), (3, .int x3), (6, .int x6)]) dX10_longestDry_42 (by decide) rfl ?_
    refine a_pick (lc2 := [(0, .ref x0), (2, .int x2), (3, .int x3), (4, .int s5), (5, .int s5), (6, .int x6)]) [2, 3, 4, 0, 1, 5] rfl ?_
    exact t_X10_longestDry_b44 h N K9 hK9 x0 x2 x3 s5 s5 x6
set_option maxRecDepth 100000 in
set_option maxHeartbeats 4000000 in
theorem t_X10_longestDry_b9_body (h : AH) (N : Nat) (K9 : Nat → Int32 → Int32 → Int32 → Int32 → Int32 → Option Int32) (hK9 : ∀ (z0 : Nat) (z1 : Int32) (z2 : Int32) (z3 : Int32) (z4 : Int32) (z5 : Int32), AO l g M_X10_longestDry false h 9 [(0, .ref z0), (2, .int z1), (3, .int z2), (4, .int z3), (5, .int z4), (6, .int z5)] [] h 0 0 (rPi h) (K9 z0 z1 z2 z3 z4 z5)) (x0 : Nat) (x2 : Int32) (x3 : Int32) (x4 : Int32) (x5 : Int32) (x6 : Int32) : AO l g M_X10_longestDry false h 9 [(0, .ref x0), (2, .int x2), (3, .int x3), (4, .int x4), (5, .int x5), (6, .int x6)] [] h 0 0 (rPi h) (f_X10_longestDry_b9_body h N K9 x0 x2 x3 x4 x5 x6) := by
  unfold f_X10_longestDry_b9_body
  refine a_iload dX10_longestDry_9 5 rfl ?_
  refine a_iload_n dX10_longestDry_11 rfl 1 rfl ?_
  refine a_icmp_gt 50 dX10_longestDry_12 (by decide) (fun c1 => ?_) (fun c1 => ?_)
  · refine a_iload dX10_longestDry_50 3 rfl ?_
    exact a_iret dX10_longestDry_52 rfl rfl (by decide) (by decide)
  · refine a_aload_n dX10_longestDry_15 rfl 0 rfl ?_
    refine a_iload dX10_longestDry_16 5 rfl ?_
    refine a_iald dX10_longestDry_18 (fun v2 => ?_)
    refine a_iload_n dX10_longestDry_19 rfl 2 rfl ?_
    refine a_icmp_ge 30 dX10_longestDry_20 (by decide) (fun c3 => ?_) (fun c3 => ?_)
    · refine a_iconst (v := 0) dX10_longestDry_30 (by decide) ?_
      refine a_pick (lc2 := [(0, .ref x0), (2, .int x2), (3, .int x3), (4, .int x4), (6, .int x6)]) [0, 1, 2, 3, 5] rfl ?_
      exact t_X10_longestDry_b31 h N K9 hK9 x0 x2 x3 x4 x6 0
    · refine a_iload dX10_longestDry_23 4 rfl ?_
      refine a_iconst (v := 1) dX10_longestDry_25 (by decide) ?_
      refine a_iadd dX10_longestDry_26 ?_
      refine a_goto 31 dX10_longestDry_27 (by decide) ?_
      refine a_pick (lc2 := [(0, .ref x0), (2, .int x2), (3, .int x3), (4, .int x4), (6, .int x6)]) [0, 1, 2, 3, 5] rfl ?_
      exact t_X10_longestDry_b31 h N K9 hK9 x0 x2 x3 x4 x6 (x5 + 1)
set_option maxRecDepth 100000 in
set_option maxHeartbeats 4000000 in
theorem t_X10_longestDry_b9 (h : AH) (N : Nat) : ∀ (n : Nat) (x0 : Nat) (x2 : Int32) (x3 : Int32) (x4 : Int32) (x5 : Int32) (x6 : Int32) , AO l g M_X10_longestDry false h 9 [(0, .ref x0), (2, .int x2), (3, .int x3), (4, .int x4), (5, .int x5), (6, .int x6)] [] h 0 0 (rPi h) (f_X10_longestDry_b9 h N  n x0 x2 x3 x4 x5 x6) := by
  intro n
  induction n with
  | zero => intro x0 x2 x3 x4 x5 x6; exact a_eq rfl a_none
  | succ n ih => intro x0 x2 x3 x4 x5 x6; exact a_eq rfl (t_X10_longestDry_b9_body h N  (f_X10_longestDry_b9 h N  n) ih x0 x2 x3 x4 x5 x6)
end
set_option maxRecDepth 100000 in
set_option maxHeartbeats 4000000 in
theorem c_X10_longestDry (l : Launch) (g : GG) (h : AH) (N : Nat) (p0 : Nat) (p1 : Int32) (p2 : Int32) (p3 : Int32) : CN l g yX10_longestDry M_X10_longestDry false [.ref p0, .int p1, .int p2, .int p3] h ((rPi h)) (f_X10_longestDry h N p0 p1 p2 p3) := by
  refine CN.of (by decide) rfl (fun hh => by first | rfl | cases hh) (Nat.le_of_ble_eq_true rfl) ?_
  unfold f_X10_longestDry
  refine a_iconst (v := 0) dX10_longestDry_0 (by decide) ?_
  refine a_istore (lc2 := [(4, .int 0), (0, .ref p0), (1, .int p1), (2, .int p2), (3, .int p3)]) dX10_longestDry_1 (by decide) rfl ?_
  refine a_iconst (v := 0) dX10_longestDry_3 (by decide) ?_
  refine a_istore (lc2 := [(5, .int 0), (4, .int 0), (0, .ref p0), (1, .int p1), (2, .int p2), (3, .int p3)]) dX10_longestDry_4 (by decide) rfl ?_
  refine a_iload_n dX10_longestDry_6 rfl 3 rfl ?_
  refine a_istore (lc2 := [(6, .int p1), (5, .int 0), (4, .int 0), (0, .ref p0), (1, .int p1), (2, .int p2), (3, .int p3)]) dX10_longestDry_7 (by decide) rfl ?_
  refine a_pick (lc2 := [(0, .ref p0), (2, .int p2), (3, .int p3), (4, .int 0), (5, .int 0), (6, .int p1)]) [3, 5, 6, 2, 1, 0] rfl ?_
  exact t_X10_longestDry_b9 h N N p0 p2 p3 0 0 p1
theorem dX10_greatest_0 : decode cX10_greatest 0 = .ok (.iconst (-1), 1) := by decide +kernel
theorem dX10_greatest_1 : decode cX10_greatest 1 = .ok (.istore_n 3, 1) := by decide +kernel
theorem dX10_greatest_2 : decode cX10_greatest 2 = .ok (.iload_n 1, 1) := by decide +kernel
theorem dX10_greatest_3 : decode cX10_greatest 3 = .ok (.istore 4, 2) := by decide +kernel
theorem dX10_greatest_5 : decode cX10_greatest 5 = .ok (.iload 4, 2) := by decide +kernel
theorem dX10_greatest_7 : decode cX10_greatest 7 = .ok (.iload_n 2, 1) := by decide +kernel
theorem dX10_greatest_8 : decode cX10_greatest 8 = .ok (.if_icmp .gt 22, 3) := by decide +kernel
theorem dX10_greatest_11 : decode cX10_greatest 11 = .ok (.aload_n 0, 1) := by decide +kernel
theorem dX10_greatest_12 : decode cX10_greatest 12 = .ok (.iload 4, 2) := by decide +kernel
theorem dX10_greatest_14 : decode cX10_greatest 14 = .ok (.iaload, 1) := by decide +kernel
theorem dX10_greatest_15 : decode cX10_greatest 15 = .ok (.iload_n 3, 1) := by decide +kernel
theorem dX10_greatest_16 : decode cX10_greatest 16 = .ok (.if_icmp .le 8, 3) := by decide +kernel
theorem dX10_greatest_19 : decode cX10_greatest 19 = .ok (.aload_n 0, 1) := by decide +kernel
theorem dX10_greatest_20 : decode cX10_greatest 20 = .ok (.iload 4, 2) := by decide +kernel
theorem dX10_greatest_22 : decode cX10_greatest 22 = .ok (.iaload, 1) := by decide +kernel
theorem dX10_greatest_23 : decode cX10_greatest 23 = .ok (.istore_n 3, 1) := by decide +kernel
theorem dX10_greatest_24 : decode cX10_greatest 24 = .ok (.iinc 4 1, 3) := by decide +kernel
theorem dX10_greatest_27 : decode cX10_greatest 27 = .ok (.goto (-22), 3) := by decide +kernel
theorem dX10_greatest_30 : decode cX10_greatest 30 = .ok (.iload_n 3, 1) := by decide +kernel
theorem dX10_greatest_31 : decode cX10_greatest 31 = .ok (.ireturn, 1) := by decide +kernel
abbrev M_X10_greatest : MI := (RX10, cX10_greatest, 5, (some .int), ({ frames := 0, cells := 0, slots := 0, locals := 0 } : Room), 0, 0, false)
def f_X10_greatest_b24 (h : AH) (N : Nat) (K5 : Nat → Int32 → Int32 → Int32 → Option Int32) (x0 : Nat) (x2 : Int32) (x3 : Int32) (x4 : Int32) : Option Int32 := K5 x0 x2 x3 (x4 + 1)
def f_X10_greatest_b5_body (h : AH) (N : Nat) (K5 : Nat → Int32 → Int32 → Int32 → Option Int32) (x0 : Nat) (x2 : Int32) (x3 : Int32) (x4 : Int32) : Option Int32 := (if x2 < x4 then some x3 else (xia h x0 x4).bind fun v2 => (if v2 ≤ x3 then f_X10_greatest_b24 h N K5 x0 x2 x3 x4 else (xia h x0 x4).bind fun v4 => f_X10_greatest_b24 h N K5 x0 x2 v4 x4))
def f_X10_greatest_b5 (h : AH) (N : Nat) : Nat → Nat → Int32 → Int32 → Int32 → Option Int32
  | 0, _, _, _, _ => none
  | n + 1, x0, x2, x3, x4 => f_X10_greatest_b5_body h N  (f_X10_greatest_b5 h N  n) x0 x2 x3 x4
def f_X10_greatest (h : AH) (N : Nat) (p0 : Nat) (p1 : Int32) (p2 : Int32) : Option Int32 := f_X10_greatest_b5 h N N p0 p2 (-1) p1
theorem km_X10_greatest : KM yX10_greatest M_X10_greatest 3 := ⟨in_tb 624 (by decide +kernel) rfl, in_tb 17 (by decide +kernel) rfl, by decide +kernel, rfl, rfl⟩
theorem hm_X10_greatest : M_X10_greatest.2.2.2.2.2.1 = 0 ∧ M_X10_greatest.2.2.2.2.2.2.1 = 0 := ⟨rfl, rfl⟩
section
variable {l : Launch} {g : GG}
set_option maxRecDepth 100000 in
set_option maxHeartbeats 4000000 in
theorem t_X10_greatest_b24 (h : AH) (N : Nat) (K5 : Nat → Int32 → Int32 → Int32 → Option Int32) (hK5 : ∀ (z0 : Nat) (z1 : Int32) (z2 : Int32) (z3 : Int32), AO l g M_X10_greatest false h 5 [(0, .ref z0), (2, .int z1), (3, .int z2), (4, .int z3)] [] h 0 0 (rPi h) (K5 z0 z1 z2 z3)) (x0 : Nat) (x2 : Int32) (x3 : Int32) (x4 : Int32) : AO l g M_X10_greatest false h 24 [(0, .ref x0), (2, .int x2), (3, .int x3), (4, .int x4)] [] h 0 0 (rPi h) (f_X10_greatest_b24 h N K5 x0 x2 x3 x4) := by
  unfold f_X10_greatest_b24
  refine a_iinc (q := 3) (v := (x4 + 1)) (lc2 := [(4, .int (x4 + 1)), (0, .ref x0), (2, .int x2), (3, .int x3)]) dX10_greatest_24 rfl rfl (by decide) rfl ?_
  refine a_goto 5 dX10_greatest_27 (by decide) ?_
  refine a_pick (lc2 := [(0, .ref x0), (2, .int x2), (3, .int x3), (4, .int (x4 + 1))]) [1, 2, 3, 0] rfl ?_
  exact hK5 x0 x2 x3 (x4 + 1)
set_option maxRecDepth 100000 in
set_option maxHeartbeats 4000000 in
theorem t_X10_greatest_b5_body (h : AH) (N : Nat) (K5 : Nat → Int32 → Int32 → Int32 → Option Int32) (hK5 : ∀ (z0 : Nat) (z1 : Int32) (z2 : Int32) (z3 : Int32), AO l g M_X10_greatest false h 5 [(0, .ref z0), (2, .int z1), (3, .int z2), (4, .int z3)] [] h 0 0 (rPi h) (K5 z0 z1 z2 z3)) (x0 : Nat) (x2 : Int32) (x3 : Int32) (x4 : Int32) : AO l g M_X10_greatest false h 5 [(0, .ref x0), (2, .int x2), (3, .int x3), (4, .int x4)] [] h 0 0 (rPi h) (f_X10_greatest_b5_body h N K5 x0 x2 x3 x4) := by
  unfold f_X10_greatest_b5_body
  refine a_iload dX10_greatest_5 3 rfl ?_
  refine a_iload_n dX10_greatest_7 rfl 1 rfl ?_
  refine a_icmp_gt 30 dX10_greatest_8 (by decide) (fun c1 => ?_) (fun c1 => ?_)
  · refine a_iload_n dX10_greatest_30 rfl 2 rfl ?_
    exact a_iret dX10_greatest_31 rfl rfl (by decide) (by decide)
  · refine a_aload_n dX10_greatest_11 rfl 0 rfl ?_
    refine a_iload dX10_greatest_12 3 rfl ?_
    refine a_iald dX10_greatest_14 (fun v2 => ?_)
    refine a_iload_n dX10_greatest_15 rfl 2 rfl ?_
    refine a_icmp_le 24 dX10_greatest_16 (by decide) (fun c3 => ?_) (fun c3 => ?_)
    · exact t_X10_greatest_b24 h N K5 hK5 x0 x2 x3 x4
    · refine a_aload_n dX10_greatest_19 rfl 0 rfl ?_
      refine a_iload dX10_greatest_20 3 rfl ?_
      refine a_iald dX10_greatest_22 (fun v4 => ?_)
      refine a_istore_n (lc2 := [(3, .int v4), (0, .ref x0), (2, .int x2), (4, .int x4)]) dX10_greatest_23 rfl (by decide) rfl ?_
      refine a_pick (lc2 := [(0, .ref x0), (2, .int x2), (3, .int v4), (4, .int x4)]) [1, 2, 0, 3] rfl ?_
      exact t_X10_greatest_b24 h N K5 hK5 x0 x2 v4 x4
set_option maxRecDepth 100000 in
set_option maxHeartbeats 4000000 in
theorem t_X10_greatest_b5 (h : AH) (N : Nat) : ∀ (n : Nat) (x0 : Nat) (x2 : Int32) (x3 : Int32) (x4 : Int32) , AO l g M_X10_greatest false h 5 [(0, .ref x0), (2, .int x2), (3, .int x3), (4, .int x4)] [] h 0 0 (rPi h) (f_X10_greatest_b5 h N  n x0 x2 x3 x4) := by
  intro n
  induction n with
  | zero => intro x0 x2 x3 x4; exact a_eq rfl a_none
  | succ n ih => intro x0 x2 x3 x4; exact a_eq rfl (t_X10_greatest_b5_body h N  (f_X10_greatest_b5 h N  n) ih x0 x2 x3 x4)
end
set_option maxRecDepth 100000 in
set_option maxHeartbeats 4000000 in
theorem c_X10_greatest (l : Launch) (g : GG) (h : AH) (N : Nat) (p0 : Nat) (p1 : Int32) (p2 : Int32) : CN l g yX10_greatest M_X10_greatest false [.ref p0, .int p1, .int p2] h ((rPi h)) (f_X10_greatest h N p0 p1 p2) := by
  refine CN.of (by decide) rfl (fun hh => by first | rfl | cases hh) (Nat.le_of_ble_eq_true rfl) ?_
  unfold f_X10_greatest
  refine a_iconst (v := (-1)) dX10_greatest_0 (by decide) ?_
  refine a_istore_n (lc2 := [(3, .int (-1)), (0, .ref p0), (1, .int p1), (2, .int p2)]) dX10_greatest_1 rfl (by decide) rfl ?_
  refine a_iload_n dX10_greatest_2 rfl 2 rfl ?_
  refine a_istore (lc2 := [(4, .int p1), (3, .int (-1)), (0, .ref p0), (1, .int p1), (2, .int p2)]) dX10_greatest_3 (by decide) rfl ?_
  refine a_pick (lc2 := [(0, .ref p0), (2, .int p2), (3, .int (-1)), (4, .int p1)]) [2, 4, 1, 0] rfl ?_
  exact t_X10_greatest_b5 h N N p0 p2 (-1) p1
theorem dX10_measure_0 : decode cX10_measure 0 = .ok (.aload_n 0, 1) := by decide +kernel
theorem dX10_measure_1 : decode cX10_measure 1 = .ok (.getfield 23, 3) := by decide +kernel
theorem dX10_measure_4 : decode cX10_measure 4 = .ok (.iload_n 1, 1) := by decide +kernel
theorem dX10_measure_5 : decode cX10_measure 5 = .ok (.iaload, 1) := by decide +kernel
theorem dX10_measure_6 : decode cX10_measure 6 = .ok (.iload 4, 2) := by decide +kernel
theorem dX10_measure_8 : decode cX10_measure 8 = .ok (.iadd, 1) := by decide +kernel
theorem dX10_measure_9 : decode cX10_measure 9 = .ok (.istore 6, 2) := by decide +kernel
theorem dX10_measure_11 : decode cX10_measure 11 = .ok (.aload_n 0, 1) := by decide +kernel
theorem dX10_measure_12 : decode cX10_measure 12 = .ok (.getfield 26, 3) := by decide +kernel
theorem dX10_measure_15 : decode cX10_measure 15 = .ok (.iload_n 1, 1) := by decide +kernel
theorem dX10_measure_16 : decode cX10_measure 16 = .ok (.iaload, 1) := by decide +kernel
theorem dX10_measure_17 : decode cX10_measure 17 = .ok (.iload 4, 2) := by decide +kernel
theorem dX10_measure_19 : decode cX10_measure 19 = .ok (.iadd, 1) := by decide +kernel
theorem dX10_measure_20 : decode cX10_measure 20 = .ok (.bipush 11, 2) := by decide +kernel
theorem dX10_measure_22 : decode cX10_measure 22 = .ok (.invokestatic 56, 3) := by decide +kernel
theorem dX10_measure_25 : decode cX10_measure 25 = .ok (.istore 7, 2) := by decide +kernel
theorem dX10_measure_27 : decode cX10_measure 27 = .ok (.aload_n 0, 1) := by decide +kernel
theorem dX10_measure_28 : decode cX10_measure 28 = .ok (.getfield 19, 3) := by decide +kernel
theorem dX10_measure_31 : decode cX10_measure 31 = .ok (.iload_n 1, 1) := by decide +kernel
theorem dX10_measure_32 : decode cX10_measure 32 = .ok (.iaload, 1) := by decide +kernel
theorem dX10_measure_33 : decode cX10_measure 33 = .ok (.tableswitch 56 0 2 #[27, 36, 47], 27) := by decide +kernel
theorem dX10_measure_60 : decode cX10_measure 60 = .ok (.aload_n 2, 1) := by decide +kernel
theorem dX10_measure_61 : decode cX10_measure 61 = .ok (.iload 6, 2) := by decide +kernel
theorem dX10_measure_63 : decode cX10_measure 63 = .ok (.iload 7, 2) := by decide +kernel
theorem dX10_measure_65 : decode cX10_measure 65 = .ok (.invokestatic 62, 3) := by decide +kernel
theorem dX10_measure_68 : decode cX10_measure 68 = .ok (.ireturn, 1) := by decide +kernel
theorem dX10_measure_69 : decode cX10_measure 69 = .ok (.aload_n 2, 1) := by decide +kernel
theorem dX10_measure_70 : decode cX10_measure 70 = .ok (.iload 6, 2) := by decide +kernel
theorem dX10_measure_72 : decode cX10_measure 72 = .ok (.iload 7, 2) := by decide +kernel
theorem dX10_measure_74 : decode cX10_measure 74 = .ok (.iload 5, 2) := by decide +kernel
theorem dX10_measure_76 : decode cX10_measure 76 = .ok (.invokestatic 66, 3) := by decide +kernel
theorem dX10_measure_79 : decode cX10_measure 79 = .ok (.ireturn, 1) := by decide +kernel
theorem dX10_measure_80 : decode cX10_measure 80 = .ok (.aload_n 3, 1) := by decide +kernel
theorem dX10_measure_81 : decode cX10_measure 81 = .ok (.iload 6, 2) := by decide +kernel
theorem dX10_measure_83 : decode cX10_measure 83 = .ok (.iload 7, 2) := by decide +kernel
theorem dX10_measure_85 : decode cX10_measure 85 = .ok (.invokestatic 70, 3) := by decide +kernel
theorem dX10_measure_88 : decode cX10_measure 88 = .ok (.ireturn, 1) := by decide +kernel
theorem dX10_measure_89 : decode cX10_measure 89 = .ok (.iload 6, 2) := by decide +kernel
theorem dX10_measure_91 : decode cX10_measure 91 = .ok (.bipush 12, 2) := by decide +kernel
theorem dX10_measure_93 : decode cX10_measure 93 = .ok (.if_icmp .ge 10, 3) := by decide +kernel
theorem dX10_measure_96 : decode cX10_measure 96 = .ok (.aload_n 2, 1) := by decide +kernel
theorem dX10_measure_97 : decode cX10_measure 97 = .ok (.iload 6, 2) := by decide +kernel
theorem dX10_measure_99 : decode cX10_measure 99 = .ok (.iaload, 1) := by decide +kernel
theorem dX10_measure_100 : decode cX10_measure 100 = .ok (.goto 4, 3) := by decide +kernel
theorem dX10_measure_103 : decode cX10_measure 103 = .ok (.iconst (-1), 1) := by decide +kernel
theorem dX10_measure_104 : decode cX10_measure 104 = .ok (.ireturn, 1) := by decide +kernel
abbrev M_X10_measure : MI := (RX10, cX10_measure, 8, (some .int), ({ frames := 1, cells := 0, slots := 0, locals := 26 } : Room), 0, 0, false)
def f_X10_measure (h : AH) (N : Nat) (p0 : Nat) (p1 : Int32) (p2 : Nat) (p3 : Nat) (p4 : Int32) (p5 : Int32) : Option Int32 := if kd h p0 = 11 + 1 then (xgr h p0 11 7).bind fun v1 => (xia h v1 p1).bind fun v2 => (xgr h p0 11 8).bind fun v3 => (xia h v3 p1).bind fun v4 => (xgr h p0 11 6).bind fun v5 => (xia h v5 p1).bind fun v6 => (if v6 = 0 then (f_X10_sumFrom h N p2 (v2 + p4) (if 11 < (v4 + p4) then 11 else (v4 + p4))).bind fun v8 => some v8 else (if v6 = 1 then (f_X10_longestDry h N p2 (v2 + p4) (if 11 < (v4 + p4) then 11 else (v4 + p4)) p5).bind fun v10 => some v10 else (if v6 = 2 then (f_X10_greatest h N p3 (v2 + p4) (if 11 < (v4 + p4) then 11 else (v4 + p4))).bind fun v12 => some v12 else (if 12 ≤ (v2 + p4) then some (-1) else (xia h p2 (v2 + p4)).bind fun v14 => some v14)))) else none
theorem g_X10_measure {h : AH} {N : Nat} {p0 : Nat} {p1 : Int32} {p2 : Nat} {p3 : Nat} {p4 : Int32} {p5 : Int32} {x : Int32} (e : f_X10_measure h N p0 p1 p2 p3 p4 p5 = some x) : kd h p0 = 11 + 1 := by
  unfold f_X10_measure at e
  by_cases hk : kd h p0 = 11 + 1
  · exact hk
  · rw [if_neg hk] at e
    cases e
theorem km_X10_measure : KM yX10_measure M_X10_measure 5 := ⟨in_tb 614 (by decide +kernel) rfl, in_tb 17 (by decide +kernel) rfl, by decide +kernel, rfl, rfl⟩
theorem hm_X10_measure : M_X10_measure.2.2.2.2.2.1 = 0 ∧ M_X10_measure.2.2.2.2.2.2.1 = 0 := ⟨rfl, rfl⟩
section
variable {l : Launch} {g : GG}
end
set_option maxRecDepth 100000 in
set_option maxHeartbeats 4000000 in
theorem c_X10_measure (l : Launch) (g : GG) (h : AH) (N : Nat) (p0 : Nat) (p1 : Int32) (p2 : Nat) (p3 : Nat) (p4 : Int32) (p5 : Int32) : CN l g yX10_measure M_X10_measure false [.ref p0, .int p1, .ref p2, .ref p3, .int p4, .int p5] h ((rPi h)) (f_X10_measure h N p0 p1 p2 p3 p4 p5) := by
  refine CN.of (by decide) rfl (fun hh => by first | rfl | cases hh) (Nat.le_of_ble_eq_true rfl) ?_
  unfold f_X10_measure
  refine a_gd (fun hkd => ?_)
  refine a_aload_n dX10_measure_0 rfl 0 rfl ?_
  refine a_getr kc11 7 dX10_measure_1 (by decide) rfl w_fieldLink_RainCover_Term_23 (fun v1 => ?_)
  refine a_iload_n dX10_measure_4 rfl 1 rfl ?_
  refine a_iald dX10_measure_5 (fun v2 => ?_)
  refine a_iload dX10_measure_6 4 rfl ?_
  refine a_iadd dX10_measure_8 ?_
  refine a_istore (lc2 := [(6, .int (v2 + p4)), (0, .ref p0), (1, .int p1), (2, .ref p2), (3, .ref p3), (4, .int p4), (5, .int p5)]) dX10_measure_9 (by decide) rfl ?_
  refine a_aload_n dX10_measure_11 rfl 1 rfl ?_
  refine a_getr kc11 8 dX10_measure_12 (by decide) rfl w_fieldLink_RainCover_Term_26 (fun v3 => ?_)
  refine a_iload_n dX10_measure_15 rfl 2 rfl ?_
  refine a_iald dX10_measure_16 (fun v4 => ?_)
  refine a_iload dX10_measure_17 5 rfl ?_
  refine a_iadd dX10_measure_19 ?_
  refine a_bipush (v := 11) dX10_measure_20 (by decide) ?_
  refine a_mmin dX10_measure_22 w_methodLink_RainCover_Term_56 w_static_java_lang_Math_min__II_I w_initialized_java_lang_Math w_code_java_lang_Math_min__II_I (by decide) (by decide) (by decide) (by decide) (Nat.le_of_ble_eq_true rfl) ?_
  refine a_istore (lc2 := [(7, .int (if 11 < (v4 + p4) then 11 else (v4 + p4))), (6, .int (v2 + p4)), (0, .ref p0), (1, .int p1), (2, .ref p2), (3, .ref p3), (4, .int p4), (5, .int p5)]) dX10_measure_25 (by decide) rfl ?_
  refine a_aload_n dX10_measure_27 rfl 2 rfl ?_
  refine a_getr kc11 6 dX10_measure_28 (by decide) rfl w_fieldLink_RainCover_Term_19 (fun v5 => ?_)
  refine a_iload_n dX10_measure_31 rfl 3 rfl ?_
  refine a_iald dX10_measure_32 (fun v6 => ?_)
  refine a_swt (v := 0) 60 dX10_measure_33 (by decide) (by decide) (fun c7 => ?_) (fun c7 => ?_)
  · refine a_aload_n dX10_measure_60 rfl 4 rfl ?_
    refine a_iload dX10_measure_61 1 rfl ?_
    refine a_iload dX10_measure_63 0 rfl ?_
    refine a_cS_Pi (as := [.ref p2, .int (v2 + p4), .int (if 11 < (v4 + p4) then 11 else (v4 + p4))]) (st := []) dX10_measure_65 (c_X10_sumFrom l g h N p2 (v2 + p4) (if 11 < (v4 + p4) then 11 else (v4 + p4))) rfl km_X10_sumFrom (hm_X10_sumFrom) w_methodLink_RainCover_Term_62 w_static_RainCover_Term_sumFrom___III_I ⟨⟨by decide, by decide⟩, ⟨by decide, by decide⟩⟩ (Nat.le_of_ble_eq_true rfl) (fun v8 => ?_)
    exact a_iret dX10_measure_68 rfl rfl (by decide) (by decide)
  refine a_swt (v := 1) 69 dX10_measure_33 (by decide) (by decide) (fun c9 => ?_) (fun c9 => ?_)
  · refine a_aload_n dX10_measure_69 rfl 4 rfl ?_
    refine a_iload dX10_measure_70 1 rfl ?_
    refine a_iload dX10_measure_72 0 rfl ?_
    refine a_iload dX10_measure_74 7 rfl ?_
    refine a_cS_Pi (as := [.ref p2, .int (v2 + p4), .int (if 11 < (v4 + p4) then 11 else (v4 + p4)), .int p5]) (st := []) dX10_measure_76 (c_X10_longestDry l g h N p2 (v2 + p4) (if 11 < (v4 + p4) then 11 else (v4 + p4)) p5) rfl km_X10_longestDry (hm_X10_longestDry) w_methodLink_RainCover_Term_66 w_static_RainCover_Term_longestDry___IIII_I ⟨⟨by decide, by decide⟩, ⟨by decide, by decide⟩⟩ (Nat.le_of_ble_eq_true rfl) (fun v10 => ?_)
    exact a_iret dX10_measure_79 rfl rfl (by decide) (by decide)
  refine a_swt (v := 2) 80 dX10_measure_33 (by decide) (by decide) (fun c11 => ?_) (fun c11 => ?_)
  · refine a_aload_n dX10_measure_80 rfl 5 rfl ?_
    refine a_iload dX10_measure_81 1 rfl ?_
    refine a_iload dX10_measure_83 0 rfl ?_
    refine a_cS_Pi (as := [.ref p3, .int (v2 + p4), .int (if 11 < (v4 + p4) then 11 else (v4 + p4))]) (st := []) dX10_measure_85 (c_X10_greatest l g h N p3 (v2 + p4) (if 11 < (v4 + p4) then 11 else (v4 + p4))) rfl km_X10_greatest (hm_X10_greatest) w_methodLink_RainCover_Term_70 w_static_RainCover_Term_greatest___III_I ⟨⟨by decide, by decide⟩, ⟨by decide, by decide⟩⟩ (Nat.le_of_ble_eq_true rfl) (fun v12 => ?_)
    exact a_iret dX10_measure_88 rfl rfl (by decide) (by decide)
  refine a_swtd (vs := [0, 1, 2]) 89 dX10_measure_33 (by decide) (by decide) (List.forall_mem_cons.mpr ⟨c7, List.forall_mem_cons.mpr ⟨c9, List.forall_mem_cons.mpr ⟨c11, fun _ hh => absurd hh List.not_mem_nil⟩⟩⟩) ?_
  refine a_iload dX10_measure_89 1 rfl ?_
  refine a_bipush (v := 12) dX10_measure_91 (by decide) ?_
  refine a_icmp_ge 103 dX10_measure_93 (by decide) (fun c13 => ?_) (fun c13 => ?_)
  · refine a_iconst (v := (-1)) dX10_measure_103 (by decide) ?_
    exact a_iret dX10_measure_104 rfl rfl (by decide) (by decide)
  · refine a_aload_n dX10_measure_96 rfl 4 rfl ?_
    refine a_iload dX10_measure_97 1 rfl ?_
    refine a_iald dX10_measure_99 (fun v14 => ?_)
    refine a_goto 104 dX10_measure_100 (by decide) ?_
    exact a_iret dX10_measure_104 rfl rfl (by decide) (by decide)
theorem dX10_rateFor_0 : decode cX10_rateFor 0 = .ok (.iload_n 1, 1) := by decide +kernel
theorem dX10_rateFor_1 : decode cX10_rateFor 1 = .ok (.aload_n 0, 1) := by decide +kernel
theorem dX10_rateFor_2 : decode cX10_rateFor 2 = .ok (.getfield 50, 3) := by decide +kernel
theorem dX10_rateFor_5 : decode cX10_rateFor 5 = .ok (.if_icmp .ge 10, 3) := by decide +kernel
theorem dX10_rateFor_8 : decode cX10_rateFor 8 = .ok (.aload_n 0, 1) := by decide +kernel
theorem dX10_rateFor_9 : decode cX10_rateFor 9 = .ok (.getfield 36, 3) := by decide +kernel
theorem dX10_rateFor_12 : decode cX10_rateFor 12 = .ok (.ifCond .gt 7, 3) := by decide +kernel
theorem dX10_rateFor_15 : decode cX10_rateFor 15 = .ok (.iconst 0, 1) := by decide +kernel
theorem dX10_rateFor_16 : decode cX10_rateFor 16 = .ok (.goto 26, 3) := by decide +kernel
theorem dX10_rateFor_19 : decode cX10_rateFor 19 = .ok (.aload_n 0, 1) := by decide +kernel
theorem dX10_rateFor_20 : decode cX10_rateFor 20 = .ok (.getfield 50, 3) := by decide +kernel
theorem dX10_rateFor_23 : decode cX10_rateFor 23 = .ok (.iload_n 1, 1) := by decide +kernel
theorem dX10_rateFor_24 : decode cX10_rateFor 24 = .ok (.isub, 1) := by decide +kernel
theorem dX10_rateFor_25 : decode cX10_rateFor 25 = .ok (.aload_n 0, 1) := by decide +kernel
theorem dX10_rateFor_26 : decode cX10_rateFor 26 = .ok (.getfield 36, 3) := by decide +kernel
theorem dX10_rateFor_29 : decode cX10_rateFor 29 = .ok (.idiv, 1) := by decide +kernel
theorem dX10_rateFor_30 : decode cX10_rateFor 30 = .ok (.aload_n 0, 1) := by decide +kernel
theorem dX10_rateFor_31 : decode cX10_rateFor 31 = .ok (.getfield 47, 3) := by decide +kernel
theorem dX10_rateFor_34 : decode cX10_rateFor 34 = .ok (.imul, 1) := by decide +kernel
theorem dX10_rateFor_35 : decode cX10_rateFor 35 = .ok (.aload_n 0, 1) := by decide +kernel
theorem dX10_rateFor_36 : decode cX10_rateFor 36 = .ok (.getfield 53, 3) := by decide +kernel
theorem dX10_rateFor_39 : decode cX10_rateFor 39 = .ok (.invokestatic 56, 3) := by decide +kernel
theorem dX10_rateFor_42 : decode cX10_rateFor 42 = .ok (.ireturn, 1) := by decide +kernel
abbrev M_X10_rateFor : MI := (RX10, cX10_rateFor, 2, (some .int), ({ frames := 1, cells := 0, slots := 0, locals := 21 } : Room), 0, 0, false)
def f_X10_rateFor_b15 (h : AH) : Option Int32 := some 0
def f_X10_rateFor (h : AH) (p0 : Nat) (p1 : Int32) : Option Int32 := if kd h p0 = 11 + 1 then (xgi h p0 11 3).bind fun v1 => (if v1 ≤ p1 then f_X10_rateFor_b15 h else (xgi h p0 11 2).bind fun v3 => (if 0 < v3 then (xgi h p0 11 3).bind fun v5 => (xgi h p0 11 2).bind fun v6 => (if v6 = 0 then none else (xgi h p0 11 1).bind fun v8 => (xgi h p0 11 4).bind fun v9 => some (if v9 < (((v5 - p1) / v6) * v8) then v9 else (((v5 - p1) / v6) * v8))) else f_X10_rateFor_b15 h)) else none
theorem g_X10_rateFor {h : AH} {p0 : Nat} {p1 : Int32} {x : Int32} (e : f_X10_rateFor h p0 p1 = some x) : kd h p0 = 11 + 1 := by
  unfold f_X10_rateFor at e
  by_cases hk : kd h p0 = 11 + 1
  · exact hk
  · rw [if_neg hk] at e
    cases e
theorem km_X10_rateFor : KM yX10_rateFor M_X10_rateFor 1 := ⟨in_tb 628 (by decide +kernel) rfl, in_tb 17 (by decide +kernel) rfl, by decide +kernel, rfl, rfl⟩
theorem hm_X10_rateFor : M_X10_rateFor.2.2.2.2.2.1 = 0 ∧ M_X10_rateFor.2.2.2.2.2.2.1 = 0 := ⟨rfl, rfl⟩
section
variable {l : Launch} {g : GG}
set_option maxRecDepth 100000 in
set_option maxHeartbeats 4000000 in
theorem t_X10_rateFor_b15 (h : AH) : AO l g M_X10_rateFor false h 15 [] [] h 0 0 (rPi h) (f_X10_rateFor_b15 h  ) := by
  unfold f_X10_rateFor_b15
  refine a_iconst (v := 0) dX10_rateFor_15 (by decide) ?_
  refine a_goto 42 dX10_rateFor_16 (by decide) ?_
  exact a_iret dX10_rateFor_42 rfl rfl (by decide) (by decide)
end
set_option maxRecDepth 100000 in
set_option maxHeartbeats 4000000 in
theorem c_X10_rateFor (l : Launch) (g : GG) (h : AH) (p0 : Nat) (p1 : Int32) : CN l g yX10_rateFor M_X10_rateFor false [.ref p0, .int p1] h ((rPi h)) (f_X10_rateFor h p0 p1) := by
  refine CN.of (by decide) rfl (fun hh => by first | rfl | cases hh) (Nat.le_of_ble_eq_true rfl) ?_
  unfold f_X10_rateFor
  refine a_gd (fun hkd => ?_)
  refine a_iload_n dX10_rateFor_0 rfl 1 rfl ?_
  refine a_aload_n dX10_rateFor_1 rfl 0 rfl ?_
  refine a_geti kc11 3 dX10_rateFor_2 (by decide) rfl w_fieldLink_RainCover_Term_50 (fun v1 => ?_)
  refine a_icmp_ge 15 dX10_rateFor_5 (by decide) (fun c2 => ?_) (fun c2 => ?_)
  · refine a_pick (lc2 := []) [] rfl ?_
    exact t_X10_rateFor_b15 h
  · refine a_aload_n dX10_rateFor_8 rfl 0 rfl ?_
    refine a_geti kc11 2 dX10_rateFor_9 (by decide) rfl w_fieldLink_RainCover_Term_36 (fun v3 => ?_)
    refine a_if_gt 19 dX10_rateFor_12 (by decide) (fun c4 => ?_) (fun c4 => ?_)
    · refine a_aload_n dX10_rateFor_19 rfl 0 rfl ?_
      refine a_geti kc11 3 dX10_rateFor_20 (by decide) rfl w_fieldLink_RainCover_Term_50 (fun v5 => ?_)
      refine a_iload_n dX10_rateFor_23 rfl 1 rfl ?_
      refine a_isub dX10_rateFor_24 ?_
      refine a_aload_n dX10_rateFor_25 rfl 0 rfl ?_
      refine a_geti kc11 2 dX10_rateFor_26 (by decide) rfl w_fieldLink_RainCover_Term_36 (fun v6 => ?_)
      refine a_idiv dX10_rateFor_29 (fun c7 => ?_)
      refine a_aload_n dX10_rateFor_30 rfl 0 rfl ?_
      refine a_geti kc11 1 dX10_rateFor_31 (by decide) rfl w_fieldLink_RainCover_Term_47 (fun v8 => ?_)
      refine a_imul dX10_rateFor_34 ?_
      refine a_aload_n dX10_rateFor_35 rfl 0 rfl ?_
      refine a_geti kc11 4 dX10_rateFor_36 (by decide) rfl w_fieldLink_RainCover_Term_53 (fun v9 => ?_)
      refine a_mmin dX10_rateFor_39 w_methodLink_RainCover_Term_56 w_static_java_lang_Math_min__II_I w_initialized_java_lang_Math w_code_java_lang_Math_min__II_I (by decide) (by decide) (by decide) (by decide) (Nat.le_of_ble_eq_true rfl) ?_
      exact a_iret dX10_rateFor_42 rfl rfl (by decide) (by decide)
    · refine a_pick (lc2 := []) [] rfl ?_
      exact t_X10_rateFor_b15 h
theorem dX10_amountFor_0 : decode cX10_amountFor 0 = .ok (.aload_n 0, 1) := by decide +kernel
theorem dX10_amountFor_1 : decode cX10_amountFor 1 = .ok (.getfield 9, 3) := by decide +kernel
theorem dX10_amountFor_4 : decode cX10_amountFor 4 = .ok (.ifCond .eq 18, 3) := by decide +kernel
theorem dX10_amountFor_7 : decode cX10_amountFor 7 = .ok (.aload_n 0, 1) := by decide +kernel
theorem dX10_amountFor_8 : decode cX10_amountFor 8 = .ok (.aload_n 0, 1) := by decide +kernel
theorem dX10_amountFor_9 : decode cX10_amountFor 9 = .ok (.iconst 0, 1) := by decide +kernel
theorem dX10_amountFor_10 : decode cX10_amountFor 10 = .ok (.aload_n 1, 1) := by decide +kernel
theorem dX10_amountFor_11 : decode cX10_amountFor 11 = .ok (.aload_n 2, 1) := by decide +kernel
theorem dX10_amountFor_12 : decode cX10_amountFor 12 = .ok (.iload_n 3, 1) := by decide +kernel
theorem dX10_amountFor_13 : decode cX10_amountFor 13 = .ok (.iload 4, 2) := by decide +kernel
theorem dX10_amountFor_15 : decode cX10_amountFor 15 = .ok (.invokevirtual 39, 3) := by decide +kernel
theorem dX10_amountFor_18 : decode cX10_amountFor 18 = .ok (.invokevirtual 43, 3) := by decide +kernel
theorem dX10_amountFor_21 : decode cX10_amountFor 21 = .ok (.ireturn, 1) := by decide +kernel
theorem dX10_amountFor_22 : decode cX10_amountFor 22 = .ok (.iconst 0, 1) := by decide +kernel
theorem dX10_amountFor_23 : decode cX10_amountFor 23 = .ok (.istore 5, 2) := by decide +kernel
theorem dX10_amountFor_25 : decode cX10_amountFor 25 = .ok (.iload 5, 2) := by decide +kernel
theorem dX10_amountFor_27 : decode cX10_amountFor 27 = .ok (.aload_n 0, 1) := by decide +kernel
theorem dX10_amountFor_28 : decode cX10_amountFor 28 = .ok (.getfield 15, 3) := by decide +kernel
theorem dX10_amountFor_31 : decode cX10_amountFor 31 = .ok (.if_icmp .ge 79, 3) := by decide +kernel
theorem dX10_amountFor_34 : decode cX10_amountFor 34 = .ok (.aload_n 0, 1) := by decide +kernel
theorem dX10_amountFor_35 : decode cX10_amountFor 35 = .ok (.iload 5, 2) := by decide +kernel
theorem dX10_amountFor_37 : decode cX10_amountFor 37 = .ok (.aload_n 1, 1) := by decide +kernel
theorem dX10_amountFor_38 : decode cX10_amountFor 38 = .ok (.aload_n 2, 1) := by decide +kernel
theorem dX10_amountFor_39 : decode cX10_amountFor 39 = .ok (.iload_n 3, 1) := by decide +kernel
theorem dX10_amountFor_40 : decode cX10_amountFor 40 = .ok (.iload 4, 2) := by decide +kernel
theorem dX10_amountFor_42 : decode cX10_amountFor 42 = .ok (.invokevirtual 39, 3) := by decide +kernel
theorem dX10_amountFor_45 : decode cX10_amountFor 45 = .ok (.istore 6, 2) := by decide +kernel
theorem dX10_amountFor_47 : decode cX10_amountFor 47 = .ok (.iload 6, 2) := by decide +kernel
theorem dX10_amountFor_49 : decode cX10_amountFor 49 = .ok (.iconst (-1), 1) := by decide +kernel
theorem dX10_amountFor_50 : decode cX10_amountFor 50 = .ok (.if_icmp .eq 44, 3) := by decide +kernel
theorem dX10_amountFor_53 : decode cX10_amountFor 53 = .ok (.aload_n 0, 1) := by decide +kernel
theorem dX10_amountFor_54 : decode cX10_amountFor 54 = .ok (.getfield 29, 3) := by decide +kernel
theorem dX10_amountFor_57 : decode cX10_amountFor 57 = .ok (.iload 5, 2) := by decide +kernel
theorem dX10_amountFor_59 : decode cX10_amountFor 59 = .ok (.baload, 1) := by decide +kernel
theorem dX10_amountFor_60 : decode cX10_amountFor 60 = .ok (.ifCond .eq 18, 3) := by decide +kernel
theorem dX10_amountFor_63 : decode cX10_amountFor 63 = .ok (.iload 6, 2) := by decide +kernel
theorem dX10_amountFor_65 : decode cX10_amountFor 65 = .ok (.aload_n 0, 1) := by decide +kernel
theorem dX10_amountFor_66 : decode cX10_amountFor 66 = .ok (.getfield 33, 3) := by decide +kernel
theorem dX10_amountFor_69 : decode cX10_amountFor 69 = .ok (.iload 5, 2) := by decide +kernel
theorem dX10_amountFor_71 : decode cX10_amountFor 71 = .ok (.iaload, 1) := by decide +kernel
theorem dX10_amountFor_72 : decode cX10_amountFor 72 = .ok (.if_icmp .le 22, 3) := by decide +kernel
theorem dX10_amountFor_75 : decode cX10_amountFor 75 = .ok (.goto 15, 3) := by decide +kernel
theorem dX10_amountFor_78 : decode cX10_amountFor 78 = .ok (.iload 6, 2) := by decide +kernel
theorem dX10_amountFor_80 : decode cX10_amountFor 80 = .ok (.aload_n 0, 1) := by decide +kernel
theorem dX10_amountFor_81 : decode cX10_amountFor 81 = .ok (.getfield 33, 3) := by decide +kernel
theorem dX10_amountFor_84 : decode cX10_amountFor 84 = .ok (.iload 5, 2) := by decide +kernel
theorem dX10_amountFor_86 : decode cX10_amountFor 86 = .ok (.iaload, 1) := by decide +kernel
theorem dX10_amountFor_87 : decode cX10_amountFor 87 = .ok (.if_icmp .ge 7, 3) := by decide +kernel
theorem dX10_amountFor_90 : decode cX10_amountFor 90 = .ok (.iconst 1, 1) := by decide +kernel
theorem dX10_amountFor_91 : decode cX10_amountFor 91 = .ok (.goto 4, 3) := by decide +kernel
theorem dX10_amountFor_94 : decode cX10_amountFor 94 = .ok (.iconst 0, 1) := by decide +kernel
theorem dX10_amountFor_95 : decode cX10_amountFor 95 = .ok (.istore 7, 2) := by decide +kernel
theorem dX10_amountFor_97 : decode cX10_amountFor 97 = .ok (.iload 7, 2) := by decide +kernel
theorem dX10_amountFor_99 : decode cX10_amountFor 99 = .ok (.ifCond .ne 5, 3) := by decide +kernel
theorem dX10_amountFor_102 : decode cX10_amountFor 102 = .ok (.iconst 0, 1) := by decide +kernel
theorem dX10_amountFor_103 : decode cX10_amountFor 103 = .ok (.ireturn, 1) := by decide +kernel
theorem dX10_amountFor_104 : decode cX10_amountFor 104 = .ok (.iinc 5 1, 3) := by decide +kernel
theorem dX10_amountFor_107 : decode cX10_amountFor 107 = .ok (.goto (-82), 3) := by decide +kernel
theorem dX10_amountFor_110 : decode cX10_amountFor 110 = .ok (.aload_n 0, 1) := by decide +kernel
theorem dX10_amountFor_111 : decode cX10_amountFor 111 = .ok (.getfield 47, 3) := by decide +kernel
theorem dX10_amountFor_114 : decode cX10_amountFor 114 = .ok (.ireturn, 1) := by decide +kernel
abbrev M_X10_amountFor : MI := (RX10, cX10_amountFor, 8, (some .int), ({ frames := 2, cells := 0, slots := 0, locals := 53 } : Room), 0, 0, false)
def f_X10_amountFor_b95 (h : AH) (N : Nat) (K25 : Nat → Nat → Nat → Int32 → Int32 → Int32 → Option Int32) (x0 : Nat) (x1 : Nat) (x2 : Nat) (x3 : Int32) (x4 : Int32) (x5 : Int32) (s6 : Int32) : Option Int32 := (if s6 = 0 then some 0 else K25 x0 x1 x2 x3 x4 (x5 + 1))
def f_X10_amountFor_b90 (h : AH) (N : Nat) (K25 : Nat → Nat → Nat → Int32 → Int32 → Int32 → Option Int32) (x0 : Nat) (x1 : Nat) (x2 : Nat) (x3 : Int32) (x4 : Int32) (x5 : Int32) : Option Int32 := f_X10_amountFor_b95 h N K25 x0 x1 x2 x3 x4 x5 1
def f_X10_amountFor_b94 (h : AH) (N : Nat) (K25 : Nat → Nat → Nat → Int32 → Int32 → Int32 → Option Int32) (x0 : Nat) (x1 : Nat) (x2 : Nat) (x3 : Int32) (x4 : Int32) (x5 : Int32) : Option Int32 := f_X10_amountFor_b95 h N K25 x0 x1 x2 x3 x4 x5 0
def f_X10_amountFor_b25_body (h : AH) (N : Nat) (K25 : Nat → Nat → Nat → Int32 → Int32 → Int32 → Option Int32) (x0 : Nat) (x1 : Nat) (x2 : Nat) (x3 : Int32) (x4 : Int32) (x5 : Int32) : Option Int32 := (xgi h x0 11 5).bind fun v5 => (if v5 ≤ x5 then (xgi h x0 11 1).bind fun v7 => some v7 else (f_X10_measure h N x0 x5 x1 x2 x3 x4).bind fun v8 => (if v8 = (-1) then f_X10_amountFor_b94 h N K25 x0 x1 x2 x3 x4 x5 else (xgr h x0 11 9).bind fun v10 => (xba h v10 x5).bind fun v11 => (if v11 = 0 then (xgr h x0 11 10).bind fun v13 => (xia h v13 x5).bind fun v14 => (if v14 ≤ v8 then f_X10_amountFor_b94 h N K25 x0 x1 x2 x3 x4 x5 else f_X10_amountFor_b90 h N K25 x0 x1 x2 x3 x4 x5) else (xgr h x0 11 10).bind fun v16 => (xia h v16 x5).bind fun v17 => (if v8 ≤ v17 then f_X10_amountFor_b94 h N K25 x0 x1 x2 x3 x4 x5 else f_X10_amountFor_b90 h N K25 x0 x1 x2 x3 x4 x5))))
def f_X10_amountFor_b25 (h : AH) (N : Nat) : Nat → Nat → Nat → Nat → Int32 → Int32 → Int32 → Option Int32
  | 0, _, _, _, _, _, _ => none
  | n + 1, x0, x1, x2, x3, x4, x5 => f_X10_amountFor_b25_body h N  (f_X10_amountFor_b25 h N  n) x0 x1 x2 x3 x4 x5
def f_X10_amountFor (h : AH) (N : Nat) (p0 : Nat) (p1 : Nat) (p2 : Nat) (p3 : Int32) (p4 : Int32) : Option Int32 := if kd h p0 = 11 + 1 then (xgi h p0 11 0).bind fun v1 => (if v1 = 0 then f_X10_amountFor_b25 h N N p0 p1 p2 p3 p4 0 else (f_X10_measure h N p0 0 p1 p2 p3 p4).bind fun v3 => (f_X10_rateFor h p0 v3).bind fun v4 => some v4) else none
theorem g_X10_amountFor {h : AH} {N : Nat} {p0 : Nat} {p1 : Nat} {p2 : Nat} {p3 : Int32} {p4 : Int32} {x : Int32} (e : f_X10_amountFor h N p0 p1 p2 p3 p4 = some x) : kd h p0 = 11 + 1 := by
  unfold f_X10_amountFor at e
  by_cases hk : kd h p0 = 11 + 1
  · exact hk
  · rw [if_neg hk] at e
    cases e
theorem km_X10_amountFor : KM yX10_amountFor M_X10_amountFor 4 := ⟨in_tb 610 (by decide +kernel) rfl, in_tb 17 (by decide +kernel) rfl, by decide +kernel, rfl, rfl⟩
theorem hm_X10_amountFor : M_X10_amountFor.2.2.2.2.2.1 = 0 ∧ M_X10_amountFor.2.2.2.2.2.2.1 = 0 := ⟨rfl, rfl⟩
section
variable {l : Launch} {g : GG}
set_option maxRecDepth 100000 in
set_option maxHeartbeats 4000000 in
theorem t_X10_amountFor_b95 (h : AH) (N : Nat) (K25 : Nat → Nat → Nat → Int32 → Int32 → Int32 → Option Int32) (hK25 : ∀ (z0 : Nat) (z1 : Nat) (z2 : Nat) (z3 : Int32) (z4 : Int32) (z5 : Int32), AO l g M_X10_amountFor false h 25 [(0, .ref z0), (1, .ref z1), (2, .ref z2), (3, .int z3), (4, .int z4), (5, .int z5)] [] h 0 0 (rPi h) (K25 z0 z1 z2 z3 z4 z5)) (x0 : Nat) (x1 : Nat) (x2 : Nat) (x3 : Int32) (x4 : Int32) (x5 : Int32) (s6 : Int32) : AO l g M_X10_amountFor false h 95 [(0, .ref x0), (1, .ref x1), (2, .ref x2), (3, .int x3), (4, .int x4), (5, .int x5)] [.int s6] h 0 0 (rPi h) (f_X10_amountFor_b95 h N K25 x0 x1 x2 x3 x4 x5 s6) := by
  unfold f_X10_amountFor_b95
  refine a_istore (lc2 := [(7, .int s6), (0, .ref x0), (1, .ref x1), (2, .ref x2), (3, .int x3), (4, .int x4), (5, .int x5)]) dX10_amountFor_95 (by decide) rfl ?_
  refine a_iload dX10_amountFor_97 0 rfl ?_
  refine a_if_ne 104 dX10_amountFor_99 (by decide) (fun c19 => ?_) (fun c19 => ?_)
  · refine a_iconst (v := 0) dX10_amountFor_102 (by decide) ?_
    exact a_iret dX10_amountFor_103 rfl rfl (by decide) (by decide)
  · refine a_iinc (q := 6) (v := (x5 + 1)) (lc2 := [(5, .int (x5 + 1)), (7, .int s6), (0, .ref x0), (1, .ref x1), (2, .ref x2), (3, .int x3), (4, .int x4)]) dX10_amountFor_104 rfl rfl (by decide) rfl ?_
    refine a_goto 25 dX10_amountFor_107 (by decide) ?_
    refine a_pick (lc2 := [(0, .ref x0), (1, .ref x1), (2, .ref x2), (3, .int x3), (4, .int x4), (5, .int (x5 + 1))]) [2, 3, 4, 5, 6, 0] rfl ?_
    exact hK25 x0 x1 x2 x3 x4 (x5 + 1)
set_option maxRecDepth 100000 in
set_option maxHeartbeats 4000000 in
theorem t_X10_amountFor_b90 (h : AH) (N : Nat) (K25 : Nat → Nat → Nat → Int32 → Int32 → Int32 → Option Int32) (hK25 : ∀ (z0 : Nat) (z1 : Nat) (z2 : Nat) (z3 : Int32) (z4 : Int32) (z5 : Int32), AO l g M_X10_amountFor false h 25 [(0, .ref z0), (1, .ref z1), (2, .ref z2), (3, .int z3), (4, .int z4), (5, .int z5)] [] h 0 0 (rPi h) (K25 z0 z1 z2 z3 z4 z5)) (x0 : Nat) (x1 : Nat) (x2 : Nat) (x3 : Int32) (x4 : Int32) (x5 : Int32) : AO l g M_X10_amountFor false h 90 [(0, .ref x0), (1, .ref x1), (2, .ref x2), (3, .int x3), (4, .int x4), (5, .int x5)] [] h 0 0 (rPi h) (f_X10_amountFor_b90 h N K25 x0 x1 x2 x3 x4 x5) := by
  unfold f_X10_amountFor_b90
  refine a_iconst (v := 1) dX10_amountFor_90 (by decide) ?_
  refine a_goto 95 dX10_amountFor_91 (by decide) ?_
  exact t_X10_amountFor_b95 h N K25 hK25 x0 x1 x2 x3 x4 x5 1
set_option maxRecDepth 100000 in
set_option maxHeartbeats 4000000 in
theorem t_X10_amountFor_b94 (h : AH) (N : Nat) (K25 : Nat → Nat → Nat → Int32 → Int32 → Int32 → Option Int32) (hK25 : ∀ (z0 : Nat) (z1 : Nat) (z2 : Nat) (z3 : Int32) (z4 : Int32) (z5 : Int32), AO l g M_X10_amountFor false h 25 [(0, .ref z0), (1, .ref z1), (2, .ref z2), (3, .int z3), (4, .int z4), (5, .int z5)] [] h 0 0 (rPi h) (K25 z0 z1 z2 z3 z4 z5)) (x0 : Nat) (x1 : Nat) (x2 : Nat) (x3 : Int32) (x4 : Int32) (x5 : Int32) : AO l g M_X10_amountFor false h 94 [(0, .ref x0), (1, .ref x1), (2, .ref x2), (3, .int x3), (4, .int x4), (5, .int x5)] [] h 0 0 (rPi h) (f_X10_amountFor_b94 h N K25 x0 x1 x2 x3 x4 x5) := by
  unfold f_X10_amountFor_b94
  refine a_iconst (v := 0) dX10_amountFor_94 (by decide) ?_
  exact t_X10_amountFor_b95 h N K25 hK25 x0 x1 x2 x3 x4 x5 0
set_option maxRecDepth 100000 in
set_option maxHeartbeats 4000000 in
theorem t_X10_amountFor_b25_body (h : AH) (N : Nat) (K25 : Nat → Nat → Nat → Int32 → Int32 → Int32 → Option Int32) (hK25 : ∀ (z0 : Nat) (z1 : Nat) (z2 : Nat) (z3 : Int32) (z4 : Int32) (z5 : Int32), AO l g M_X10_amountFor false h 25 [(0, .ref z0), (1, .ref z1), (2, .ref z2), (3, .int z3), (4, .int z4), (5, .int z5)] [] h 0 0 (rPi h) (K25 z0 z1 z2 z3 z4 z5)) (x0 : Nat) (x1 : Nat) (x2 : Nat) (x3 : Int32) (x4 : Int32) (x5 : Int32) : AO l g M_X10_amountFor false h 25 [(0, .ref x0), (1, .ref x1), (2, .ref x2), (3, .int x3), (4, .int x4), (5, .int x5)] [] h 0 0 (rPi h) (f_X10_amountFor_b25_body h N K25 x0 x1 x2 x3 x4 x5) := by
  unfold f_X10_amountFor_b25_body
  refine a_iload dX10_amountFor_25 5 rfl ?_
  refine a_aload_n dX10_amountFor_27 rfl 0 rfl ?_
  refine a_geti kc11 5 dX10_amountFor_28 (by decide) rfl w_fieldLink_RainCover_Term_15 (fun v5 => ?_)
  refine a_icmp_ge 110 dX10_amountFor_31 (by decide) (fun c6 => ?_) (fun c6 => ?_)
  · refine a_aload_n dX10_amountFor_110 rfl 0 rfl ?_
    refine a_geti kc11 1 dX10_amountFor_111 (by decide) rfl w_fieldLink_RainCover_Term_47 (fun v7 => ?_)
    exact a_iret dX10_amountFor_114 rfl rfl (by decide) (by decide)
  · refine a_aload_n dX10_amountFor_34 rfl 0 rfl ?_
    refine a_iload dX10_amountFor_35 5 rfl ?_
    refine a_aload_n dX10_amountFor_37 rfl 1 rfl ?_
    refine a_aload_n dX10_amountFor_38 rfl 2 rfl ?_
    refine a_iload_n dX10_amountFor_39 rfl 3 rfl ?_
    refine a_iload dX10_amountFor_40 4 rfl ?_
    refine a_cV_Pi (r := x0) (ci := 11) (as := [.int x5, .ref x1, .ref x2, .int x3, .int x4]) (st := []) dX10_amountFor_42 (c_X10_measure l g h N x0 x5 x1 x2 x3 x4) rfl km_X10_measure (hm_X10_measure) rfl (by decide) rfl (fun _ ee => g_X10_measure ee) w_methodLink_RainCover_Term_39 w_instanceMethod_RainCover_Term_measure__I_I_III_I w_selects_RainCover_Term_RainCover_Term_measure__I_I_III_I_RainCover_Term_measure__I_I_III_I ⟨⟨by decide, by decide⟩, ⟨by decide, by decide⟩⟩ (Nat.le_of_ble_eq_true rfl) (fun v8 => ?_)
    refine a_istore (lc2 := [(6, .int v8), (0, .ref x0), (1, .ref x1), (2, .ref x2), (3, .int x3), (4, .int x4), (5, .int x5)]) dX10_amountFor_45 (by decide) rfl ?_
    refine a_iload dX10_amountFor_47 0 rfl ?_
    refine a_iconst (v := (-1)) dX10_amountFor_49 (by decide) ?_
    refine a_icmp_eq 94 dX10_amountFor_50 (by decide) (fun c9 => ?_) (fun c9 => ?_)
    · refine a_pick (lc2 := [(0, .ref x0), (1, .ref x1), (2, .ref x2), (3, .int x3), (4, .int x4), (5, .int x5)]) [1, 2, 3, 4, 5, 6] rfl ?_
      exact t_X10_amountFor_b94 h N K25 hK25 x0 x1 x2 x3 x4 x5
    · refine a_aload_n dX10_amountFor_53 rfl 1 rfl ?_
      refine a_getr kc11 9 dX10_amountFor_54 (by decide) rfl w_fieldLink_RainCover_Term_29 (fun v10 => ?_)
      refine a_iload dX10_amountFor_57 6 rfl ?_
      refine a_bald dX10_amountFor_59 (fun v11 => ?_)
      refine a_if_eq 78 dX10_amountFor_60 (by decide) (fun c12 => ?_) (fun c12 => ?_)
      · refine a_iload dX10_amountFor_78 0 rfl ?_
        refine a_aload_n dX10_amountFor_80 rfl 1 rfl ?_
        refine a_getr kc11 10 dX10_amountFor_81 (by decide) rfl w_fieldLink_RainCover_Term_33 (fun v13 => ?_)
        refine a_iload dX10_amountFor_84 6 rfl ?_
        refine a_iald dX10_amountFor_86 (fun v14 => ?_)
        refine a_icmp_ge 94 dX10_amountFor_87 (by decide) (fun c15 => ?_) (fun c15 => ?_)
        · refine a_pick (lc2 := [(0, .ref x0), (1, .ref x1), (2, .ref x2), (3, .int x3), (4, .int x4), (5, .int x5)]) [1, 2, 3, 4, 5, 6] rfl ?_
          exact t_X10_amountFor_b94 h N K25 hK25 x0 x1 x2 x3 x4 x5
        · refine a_pick (lc2 := [(0, .ref x0), (1, .ref x1), (2, .ref x2), (3, .int x3), (4, .int x4), (5, .int x5)]) [1, 2, 3, 4, 5, 6] rfl ?_
          exact t_X10_amountFor_b90 h N K25 hK25 x0 x1 x2 x3 x4 x5
      · refine a_iload dX10_amountFor_63 0 rfl ?_
        refine a_aload_n dX10_amountFor_65 rfl 1 rfl ?_
        refine a_getr kc11 10 dX10_amountFor_66 (by decide) rfl w_fieldLink_RainCover_Term_33 (fun v16 => ?_)
        refine a_iload dX10_amountFor_69 6 rfl ?_
        refine a_iald dX10_amountFor_71 (fun v17 => ?_)
        refine a_icmp_le 94 dX10_amountFor_72 (by decide) (fun c18 => ?_) (fun c18 => ?_)
        · refine a_pick (lc2 := [(0, .ref x0), (1, .ref x1), (2, .ref x2), (3, .int x3), (4, .int x4), (5, .int x5)]) [1, 2, 3, 4, 5, 6] rfl ?_
          exact t_X10_amountFor_b94 h N K25 hK25 x0 x1 x2 x3 x4 x5
        · refine a_goto 90 dX10_amountFor_75 (by decide) ?_
          refine a_pick (lc2 := [(0, .ref x0), (1, .ref x1), (2, .ref x2), (3, .int x3), (4, .int x4), (5, .int x5)]) [1, 2, 3, 4, 5, 6] rfl ?_
          exact t_X10_amountFor_b90 h N K25 hK25 x0 x1 x2 x3 x4 x5
set_option maxRecDepth 100000 in
set_option maxHeartbeats 4000000 in
theorem t_X10_amountFor_b25 (h : AH) (N : Nat) : ∀ (n : Nat) (x0 : Nat) (x1 : Nat) (x2 : Nat) (x3 : Int32) (x4 : Int32) (x5 : Int32) , AO l g M_X10_amountFor false h 25 [(0, .ref x0), (1, .ref x1), (2, .ref x2), (3, .int x3), (4, .int x4), (5, .int x5)] [] h 0 0 (rPi h) (f_X10_amountFor_b25 h N  n x0 x1 x2 x3 x4 x5) := by
  intro n
  induction n with
  | zero => intro x0 x1 x2 x3 x4 x5; exact a_eq rfl a_none
  | succ n ih => intro x0 x1 x2 x3 x4 x5; exact a_eq rfl (t_X10_amountFor_b25_body h N  (f_X10_amountFor_b25 h N  n) ih x0 x1 x2 x3 x4 x5)
end
set_option maxRecDepth 100000 in
set_option maxHeartbeats 4000000 in
theorem c_X10_amountFor (l : Launch) (g : GG) (h : AH) (N : Nat) (p0 : Nat) (p1 : Nat) (p2 : Nat) (p3 : Int32) (p4 : Int32) : CN l g yX10_amountFor M_X10_amountFor false [.ref p0, .ref p1, .ref p2, .int p3, .int p4] h ((rPi h)) (f_X10_amountFor h N p0 p1 p2 p3 p4) := by
  refine CN.of (by decide) rfl (fun hh => by first | rfl | cases hh) (Nat.le_of_ble_eq_true rfl) ?_
  unfold f_X10_amountFor
  refine a_gd (fun hkd => ?_)
  refine a_aload_n dX10_amountFor_0 rfl 0 rfl ?_
  refine a_geti kc11 0 dX10_amountFor_1 (by decide) rfl w_fieldLink_RainCover_Term_9 (fun v1 => ?_)
  refine a_if_eq 22 dX10_amountFor_4 (by decide) (fun c2 => ?_) (fun c2 => ?_)
  · refine a_iconst (v := 0) dX10_amountFor_22 (by decide) ?_
    refine a_istore (lc2 := [(5, .int 0), (0, .ref p0), (1, .ref p1), (2, .ref p2), (3, .int p3), (4, .int p4)]) dX10_amountFor_23 (by decide) rfl ?_
    refine a_pick (lc2 := [(0, .ref p0), (1, .ref p1), (2, .ref p2), (3, .int p3), (4, .int p4), (5, .int 0)]) [1, 2, 3, 4, 5, 0] rfl ?_
    exact t_X10_amountFor_b25 h N N p0 p1 p2 p3 p4 0
  · refine a_aload_n dX10_amountFor_7 rfl 0 rfl ?_
    refine a_aload_n dX10_amountFor_8 rfl 0 rfl ?_
    refine a_iconst (v := 0) dX10_amountFor_9 (by decide) ?_
    refine a_aload_n dX10_amountFor_10 rfl 1 rfl ?_
    refine a_aload_n dX10_amountFor_11 rfl 2 rfl ?_
    refine a_iload_n dX10_amountFor_12 rfl 3 rfl ?_
    refine a_iload dX10_amountFor_13 4 rfl ?_
    refine a_cV_Pi (r := p0) (ci := 11) (as := [.int 0, .ref p1, .ref p2, .int p3, .int p4]) (st := [.ref p0]) dX10_amountFor_15 (c_X10_measure l g h N p0 0 p1 p2 p3 p4) rfl km_X10_measure (hm_X10_measure) rfl (by decide) rfl (fun _ ee => g_X10_measure ee) w_methodLink_RainCover_Term_39 w_instanceMethod_RainCover_Term_measure__I_I_III_I w_selects_RainCover_Term_RainCover_Term_measure__I_I_III_I_RainCover_Term_measure__I_I_III_I ⟨⟨by decide, by decide⟩, ⟨by decide, by decide⟩⟩ (Nat.le_of_ble_eq_true rfl) (fun v3 => ?_)
    refine a_cV_Pi (r := p0) (ci := 11) (as := [.int v3]) (st := []) dX10_amountFor_18 (c_X10_rateFor l g h p0 v3) rfl km_X10_rateFor (hm_X10_rateFor) rfl (by decide) rfl (fun _ ee => g_X10_rateFor ee) w_methodLink_RainCover_Term_43 w_instanceMethod_RainCover_Term_rateFor__I_I w_selects_RainCover_Term_RainCover_Term_rateFor__I_I_RainCover_Term_rateFor__I_I ⟨⟨by decide, by decide⟩, ⟨by decide, by decide⟩⟩ (Nat.le_of_ble_eq_true rfl) (fun v4 => ?_)
    exact a_iret dX10_amountFor_21 rfl rfl (by decide) (by decide)
