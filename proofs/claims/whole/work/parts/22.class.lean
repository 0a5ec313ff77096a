theorem dX11_seen_0 : decode cX11_seen 0 = .ok (.iload_n 1, 1) := by decide +kernel
theorem dX11_seen_1 : decode cX11_seen 1 = .ok (.iload_n 2, 1) := by decide +kernel
theorem dX11_seen_2 : decode cX11_seen 2 = .ok (.iload_n 3, 1) := by decide +kernel
theorem dX11_seen_3 : decode cX11_seen 3 = .ok (.invokestatic 144, 3) := by decide +kernel
theorem dX11_seen_6 : decode cX11_seen 6 = .ok (.ifCond .eq 8, 3) := by decide +kernel
theorem dX11_seen_9 : decode cX11_seen 9 = .ok (.iload 4, 2) := by decide +kernel
theorem dX11_seen_11 : decode cX11_seen 11 = .ok (.ifCond .ge 6, 3) := by decide +kernel
theorem dX11_seen_14 : decode cX11_seen 14 = .ok (.bipush (-5), 2) := by decide +kernel
theorem dX11_seen_16 : decode cX11_seen 16 = .ok (.ireturn, 1) := by decide +kernel
theorem dX11_seen_17 : decode cX11_seen 17 = .ok (.aload_n 0, 1) := by decide +kernel
theorem dX11_seen_18 : decode cX11_seen 18 = .ok (.getfield 30, 3) := by decide +kernel
theorem dX11_seen_21 : decode cX11_seen 21 = .ok (.bipush 8, 2) := by decide +kernel
theorem dX11_seen_23 : decode cX11_seen 23 = .ok (.iload_n 1, 1) := by decide +kernel
theorem dX11_seen_24 : decode cX11_seen 24 = .ok (.iadd, 1) := by decide +kernel
theorem dX11_seen_25 : decode cX11_seen 25 = .ok (.iload_n 2, 1) := by decide +kernel
theorem dX11_seen_26 : decode cX11_seen 26 = .ok (.iload_n 3, 1) := by decide +kernel
theorem dX11_seen_27 : decode cX11_seen 27 = .ok (.iload 4, 2) := by decide +kernel
theorem dX11_seen_29 : decode cX11_seen 29 = .ok (.invokevirtual 147, 3) := by decide +kernel
theorem dX11_seen_32 : decode cX11_seen 32 = .ok (.ireturn, 1) := by decide +kernel
abbrev M_X11_seen : MI := (RX11, cX11_seen, 5, (some .int), ({ frames := 3, cells := 0, slots := 0, locals := 64 } : Room), 0, 0, false)
def f_X11_seen (h : AH) (N : Nat) (p0 : Nat) (p1 : Int32) (p2 : Int32) (p3 : Int32) (p4 : Int32) : Option Int32 := if kd h p0 = 12 + 1 then (f_X11_isDistrictWeek h p1 p2 p3).bind fun v1 => (if v1 = 0 then some (-5) else (if 0 ≤ p4 then (xgr h p0 12 4).bind fun v4 => (f_X9_asKnown h N v4 (8 + p1) p2 p3 p4).bind fun v5 => some v5 else some (-5))) else none
theorem g_X11_seen {h : AH} {N : Nat} {p0 : Nat} {p1 : Int32} {p2 : Int32} {p3 : Int32} {p4 : Int32} {x : Int32} (e : f_X11_seen h N p0 p1 p2 p3 p4 = some x) : kd h p0 = 12 + 1 := by
  unfold f_X11_seen at e
  by_cases hk : kd h p0 = 12 + 1
  · exact hk
  · rw [if_neg hk] at e
    cases e
theorem km_X11_seen : KM yX11_seen M_X11_seen 4 := ⟨in_tb 358 (by decide +kernel) rfl, in_tb 1 (by decide +kernel) rfl, by decide +kernel, rfl, rfl⟩
theorem hm_X11_seen : M_X11_seen.2.2.2.2.2.1 = 0 ∧ M_X11_seen.2.2.2.2.2.2.1 = 0 := ⟨rfl, rfl⟩
section
variable {l : Launch} {g : GG}
end
set_option maxRecDepth 100000 in
set_option maxHeartbeats 4000000 in
theorem c_X11_seen (l : Launch) (g : GG) (h : AH) (N : Nat) (p0 : Nat) (p1 : Int32) (p2 : Int32) (p3 : Int32) (p4 : Int32) : CN l g yX11_seen M_X11_seen false [.ref p0, .int p1, .int p2, .int p3, .int p4] h ((rPi h)) (f_X11_seen h N p0 p1 p2 p3 p4) := by
  refine CN.of (by decide) rfl (fun hh => by first | rfl | cases hh) (Nat.le_of_ble_eq_true rfl) ?_
  unfold f_X11_seen
  refine a_gd (fun hkd => ?_)
  refine a_iload_n dX11_seen_0 rfl 1 rfl ?_
  refine a_iload_n dX11_seen_1 rfl 2 rfl ?_
  refine a_iload_n dX11_seen_2 rfl 3 rfl ?_
  refine a_cS_Pi (as := [.int p1, .int p2, .int p3]) (st := []) dX11_seen_3 (c_X11_isDistrictWeek l g h p1 p2 p3) rfl km_X11_isDistrictWeek (hm_X11_isDistrictWeek) w_methodLink_RainCover_144 w_static_RainCover_isDistrictWeek__III_Z ⟨⟨by decide, by decide⟩, ⟨by decide, by decide⟩⟩ (Nat.le_of_ble_eq_true rfl) (fun v1 => ?_)
  refine a_if_eq 14 dX11_seen_6 (by decide) (fun c2 => ?_) (fun c2 => ?_)
  · refine a_bipush (v := (-5)) dX11_seen_14 (by decide) ?_
    exact a_iret dX11_seen_16 rfl rfl (by decide) (by decide)
  · refine a_iload dX11_seen_9 4 rfl ?_
    refine a_if_ge 17 dX11_seen_11 (by decide) (fun c3 => ?_) (fun c3 => ?_)
    · refine a_aload_n dX11_seen_17 rfl 0 rfl ?_
      refine a_getr kc12 4 dX11_seen_18 (by decide) rfl w_fieldLink_RainCover_30 (fun v4 => ?_)
      refine a_bipush (v := 8) dX11_seen_21 (by decide) ?_
      refine a_iload_n dX11_seen_23 rfl 1 rfl ?_
      refine a_iadd dX11_seen_24 ?_
      refine a_iload_n dX11_seen_25 rfl 2 rfl ?_
      refine a_iload_n dX11_seen_26 rfl 3 rfl ?_
      refine a_iload dX11_seen_27 4 rfl ?_
      refine a_cV_Pi (r := v4) (ci := 10) (as := [.int (8 + p1), .int p2, .int p3, .int p4]) (st := []) dX11_seen_29 (c_X9_asKnown l g h N v4 (8 + p1) p2 p3 p4) rfl km_X9_asKnown (hm_X9_asKnown) rfl (by decide) rfl (fun _ ee => g_X9_asKnown ee) w_methodLink_RainCover_147 w_instanceMethod_RainCover_Tellings_asKnown__IIII_I w_selects_RainCover_Tellings_RainCover_Tellings_asKnown__IIII_I_RainCover_Tellings_asKnown__IIII_I ⟨⟨by decide, by decide⟩, ⟨by decide, by decide⟩⟩ (Nat.le_of_ble_eq_true rfl) (fun v5 => ?_)
      exact a_iret dX11_seen_32 rfl rfl (by decide) (by decide)
    · refine a_bipush (v := (-5)) dX11_seen_14 (by decide) ?_
      exact a_iret dX11_seen_16 rfl rfl (by decide) (by decide)
theorem dX11_isSheet_0 : decode cX11_isSheet 0 = .ok (.iload_n 1, 1) := by decide +kernel
theorem dX11_isSheet_1 : decode cX11_isSheet 1 = .ok (.iconst 0, 1) := by decide +kernel
theorem dX11_isSheet_2 : decode cX11_isSheet 2 = .ok (.aload_n 0, 1) := by decide +kernel
theorem dX11_isSheet_3 : decode cX11_isSheet 3 = .ok (.getfield 69, 3) := by decide +kernel
theorem dX11_isSheet_6 : decode cX11_isSheet 6 = .ok (.arraylength, 1) := by decide +kernel
theorem dX11_isSheet_7 : decode cX11_isSheet 7 = .ok (.iconst 1, 1) := by decide +kernel
theorem dX11_isSheet_8 : decode cX11_isSheet 8 = .ok (.isub, 1) := by decide +kernel
theorem dX11_isSheet_9 : decode cX11_isSheet 9 = .ok (.invokestatic 120, 3) := by decide +kernel
theorem dX11_isSheet_12 : decode cX11_isSheet 12 = .ok (.ireturn, 1) := by decide +kernel
abbrev M_X11_isSheet : MI := (RX11, cX11_isSheet, 2, (some .boolean), ({ frames := 1, cells := 0, slots := 0, locals := 22 } : Room), 0, 0, false)
def f_X11_isSheet (h : AH) (p0 : Nat) (p1 : Int32) : Option Int32 := if kd h p0 = 12 + 1 then (xgr h p0 12 12).bind fun v1 => (xal h v1).bind fun v2 => (f_X11_within h p1 0 (v2 - 1)).bind fun v3 => (if v3 = 0 ∨ v3 = 1 then some v3 else none) else none
theorem g_X11_isSheet {h : AH} {p0 : Nat} {p1 : Int32} {x : Int32} (e : f_X11_isSheet h p0 p1 = some x) : kd h p0 = 12 + 1 := by
  unfold f_X11_isSheet at e
  by_cases hk : kd h p0 = 12 + 1
  · exact hk
  · rw [if_neg hk] at e
    cases e
theorem km_X11_isSheet : KM yX11_isSheet M_X11_isSheet 1 := ⟨in_tb 370 (by decide +kernel) rfl, in_tb 1 (by decide +kernel) rfl, by decide +kernel, rfl, rfl⟩
theorem hm_X11_isSheet : M_X11_isSheet.2.2.2.2.2.1 = 0 ∧ M_X11_isSheet.2.2.2.2.2.2.1 = 0 := ⟨rfl, rfl⟩
section
variable {l : Launch} {g : GG}
end
set_option maxRecDepth 100000 in
set_option maxHeartbeats 4000000 in
theorem c_X11_isSheet (l : Launch) (g : GG) (h : AH) (p0 : Nat) (p1 : Int32) : CN l g yX11_isSheet M_X11_isSheet false [.ref p0, .int p1] h ((rPi h)) (f_X11_isSheet h p0 p1) := by
  refine CN.of (by decide) rfl (fun hh => by first | rfl | cases hh) (Nat.le_of_ble_eq_true rfl) ?_
  unfold f_X11_isSheet
  refine a_gd (fun hkd => ?_)
  refine a_iload_n dX11_isSheet_0 rfl 1 rfl ?_
  refine a_iconst (v := 0) dX11_isSheet_1 (by decide) ?_
  refine a_aload_n dX11_isSheet_2 rfl 0 rfl ?_
  refine a_getr kc12 12 dX11_isSheet_3 (by decide) rfl w_fieldLink_RainCover_69 (fun v1 => ?_)
  refine a_alen dX11_isSheet_6 (fun v2 => ?_)
  refine a_iconst (v := 1) dX11_isSheet_7 (by decide) ?_
  refine a_isub dX11_isSheet_8 ?_
  refine a_cS_Pi (as := [.int p1, .int 0, .int (v2 - 1)]) (st := []) dX11_isSheet_9 (c_X11_within l g h p1 0 (v2 - 1)) rfl km_X11_within (hm_X11_within) w_methodLink_RainCover_120 w_static_RainCover_within__III_Z ⟨⟨by decide, by decide⟩, ⟨by decide, by decide⟩⟩ (Nat.le_of_ble_eq_true rfl) (fun v3 => ?_)
  exact a_gd (fun c4 => a_zret dX11_isSheet_12 rfl c4 rfl (by decide) (by decide))
theorem dX6_isSort_0 : decode cX6_isSort 0 = .ok (.iload_n 0, 1) := by decide +kernel
theorem dX6_isSort_1 : decode cX6_isSort 1 = .ok (.iconst 0, 1) := by decide +kernel
theorem dX6_isSort_2 : decode cX6_isSort 2 = .ok (.iconst 2, 1) := by decide +kernel
theorem dX6_isSort_3 : decode cX6_isSort 3 = .ok (.invokestatic 20, 3) := by decide +kernel
theorem dX6_isSort_6 : decode cX6_isSort 6 = .ok (.ireturn, 1) := by decide +kernel
abbrev M_X6_isSort : MI := (RX6, cX6_isSort, 1, (some .boolean), ({ frames := 1, cells := 0, slots := 0, locals := 22 } : Room), 0, 0, false)
def f_X6_isSort (h : AH) (p0 : Int32) : Option Int32 := (f_X11_within h p0 0 2).bind fun v1 => (if v1 = 0 ∨ v1 = 1 then some v1 else none)
theorem km_X6_isSort : KM yX6_isSort M_X6_isSort 1 := ⟨in_tb 373 (by decide +kernel) rfl, in_tb 8 (by decide +kernel) rfl, by decide +kernel, rfl, rfl⟩
theorem hm_X6_isSort : M_X6_isSort.2.2.2.2.2.1 = 0 ∧ M_X6_isSort.2.2.2.2.2.2.1 = 0 := ⟨rfl, rfl⟩
section
variable {l : Launch} {g : GG}
end
set_option maxRecDepth 100000 in
set_option maxHeartbeats 4000000 in
theorem c_X6_isSort (l : Launch) (g : GG) (h : AH) (p0 : Int32) : CN l g yX6_isSort M_X6_isSort false [.int p0] h ((rPi h)) (f_X6_isSort h p0) := by
  refine CN.of (by decide) rfl (fun hh => by first | rfl | cases hh) (Nat.le_of_ble_eq_true rfl) ?_
  unfold f_X6_isSort
  refine a_iload_n dX6_isSort_0 rfl 0 rfl ?_
  refine a_iconst (v := 0) dX6_isSort_1 (by decide) ?_
  refine a_iconst (v := 2) dX6_isSort_2 (by decide) ?_
  refine a_cSN_Pi (as := [.int p0, .int 0, .int 2]) (st := []) dX6_isSort_3 (c_X11_within l g h p0 0 2) rfl km_X11_within (hm_X11_within) (host := "RainCover") (by decide +kernel) w_static_RainCover_within__III_Z ⟨⟨by decide, by decide⟩, ⟨by decide, by decide⟩⟩ (Nat.le_of_ble_eq_true rfl) (fun v1 => ?_)
  exact a_gd (fun c2 => a_zret dX6_isSort_6 rfl c2 rfl (by decide) (by decide))
theorem dX6_isMissing_0 : decode cX6_isMissing 0 = .ok (.aload_n 0, 1) := by decide +kernel
theorem dX6_isMissing_1 : decode cX6_isMissing 1 = .ok (.getfield 9, 3) := by decide +kernel
theorem dX6_isMissing_4 : decode cX6_isMissing 4 = .ok (.iconst (-1), 1) := by decide +kernel
theorem dX6_isMissing_5 : decode cX6_isMissing 5 = .ok (.if_icmp .ne 7, 3) := by decide +kernel
theorem dX6_isMissing_8 : decode cX6_isMissing 8 = .ok (.iconst 1, 1) := by decide +kernel
theorem dX6_isMissing_9 : decode cX6_isMissing 9 = .ok (.goto 4, 3) := by decide +kernel
theorem dX6_isMissing_12 : decode cX6_isMissing 12 = .ok (.iconst 0, 1) := by decide +kernel
theorem dX6_isMissing_13 : decode cX6_isMissing 13 = .ok (.ireturn, 1) := by decide +kernel
abbrev M_X6_isMissing : MI := (RX6, cX6_isMissing, 1, (some .boolean), ({ frames := 0, cells := 0, slots := 0, locals := 0 } : Room), 0, 0, false)
def f_X6_isMissing (h : AH) (p0 : Nat) : Option Int32 := if kd h p0 = 7 + 1 then (xgi h p0 7 0).bind fun v1 => (if v1 = (-1) then some 1 else some 0) else none
theorem g_X6_isMissing {h : AH} {p0 : Nat} {x : Int32} (e : f_X6_isMissing h p0 = some x) : kd h p0 = 7 + 1 := by
  unfold f_X6_isMissing at e
  by_cases hk : kd h p0 = 7 + 1
  · exact hk
  · rw [if_neg hk] at e
    cases e
theorem km_X6_isMissing : KM yX6_isMissing M_X6_isMissing 0 := ⟨in_tb 378 (by decide +kernel) rfl, in_tb 8 (by decide +kernel) rfl, by decide +kernel, rfl, rfl⟩
theorem hm_X6_isMissing : M_X6_isMissing.2.2.2.2.2.1 = 0 ∧ M_X6_isMissing.2.2.2.2.2.2.1 = 0 := ⟨rfl, rfl⟩
section
variable {l : Launch} {g : GG}
end
set_option maxRecDepth 100000 in
set_option maxHeartbeats 4000000 in
theorem c_X6_isMissing (l : Launch) (g : GG) (h : AH) (p0 : Nat) : CN l g yX6_isMissing M_X6_isMissing false [.ref p0] h ((rPi h)) (f_X6_isMissing h p0) := by
  refine CN.of (by decide) rfl (fun hh => by first | rfl | cases hh) (Nat.le_of_ble_eq_true rfl) ?_
  unfold f_X6_isMissing
  refine a_gd (fun hkd => ?_)
  refine a_aload_n dX6_isMissing_0 rfl 0 rfl ?_
  refine a_geti kc7 0 dX6_isMissing_1 (by decide) rfl w_fieldLink_RainCover_Sheet_9 (fun v1 => ?_)
  refine a_iconst (v := (-1)) dX6_isMissing_4 (by decide) ?_
  refine a_icmp_ne 12 dX6_isMissing_5 (by decide) (fun c2 => ?_) (fun c2 => ?_)
  · refine a_iconst (v := 1) dX6_isMissing_8 (by decide) ?_
    refine a_goto 13 dX6_isMissing_9 (by decide) ?_
    exact a_zret dX6_isMissing_13 rfl (Or.inr rfl) rfl (by decide) (by decide)
  · refine a_iconst (v := 0) dX6_isMissing_12 (by decide) ?_
    exact a_zret dX6_isMissing_13 rfl (Or.inl rfl) rfl (by decide) (by decide)
theorem dX6_hasItems_0 : decode cX6_hasItems 0 = .ok (.iload_n 1, 1) := by decide +kernel
theorem dX6_hasItems_1 : decode cX6_hasItems 1 = .ok (.ifCond .lt 21, 3) := by decide +kernel
theorem dX6_hasItems_4 : decode cX6_hasItems 4 = .ok (.iload_n 2, 1) := by decide +kernel
theorem dX6_hasItems_5 : decode cX6_hasItems 5 = .ok (.ifCond .lt 17, 3) := by decide +kernel
theorem dX6_hasItems_8 : decode cX6_hasItems 8 = .ok (.iload_n 1, 1) := by decide +kernel
theorem dX6_hasItems_9 : decode cX6_hasItems 9 = .ok (.aload_n 0, 1) := by decide +kernel
theorem dX6_hasItems_10 : decode cX6_hasItems 10 = .ok (.getfield 13, 3) := by decide +kernel
theorem dX6_hasItems_13 : decode cX6_hasItems 13 = .ok (.iload_n 2, 1) := by decide +kernel
theorem dX6_hasItems_14 : decode cX6_hasItems 14 = .ok (.isub, 1) := by decide +kernel
theorem dX6_hasItems_15 : decode cX6_hasItems 15 = .ok (.if_icmp .gt 7, 3) := by decide +kernel
theorem dX6_hasItems_18 : decode cX6_hasItems 18 = .ok (.iconst 1, 1) := by decide +kernel
theorem dX6_hasItems_19 : decode cX6_hasItems 19 = .ok (.goto 4, 3) := by decide +kernel
theorem dX6_hasItems_22 : decode cX6_hasItems 22 = .ok (.iconst 0, 1) := by decide +kernel
theorem dX6_hasItems_23 : decode cX6_hasItems 23 = .ok (.ireturn, 1) := by decide +kernel
abbrev M_X6_hasItems : MI := (RX6, cX6_hasItems, 3, (some .boolean), ({ frames := 0, cells := 0, slots := 0, locals := 0 } : Room), 0, 0, false)
def f_X6_hasItems (h : AH) (p0 : Nat) (p1 : Int32) (p2 : Int32) : Option Int32 := if kd h p0 = 7 + 1 then (if p1 < 0 then some 0 else (if p2 < 0 then some 0 else (xgi h p0 7 1).bind fun v3 => (if (v3 - p2) < p1 then some 0 else some 1))) else none
theorem g_X6_hasItems {h : AH} {p0 : Nat} {p1 : Int32} {p2 : Int32} {x : Int32} (e : f_X6_hasItems h p0 p1 p2 = some x) : kd h p0 = 7 + 1 := by
  unfold f_X6_hasItems at e
  by_cases hk : kd h p0 = 7 + 1
  · exact hk
  · rw [if_neg hk] at e
    cases e
theorem km_X6_hasItems : KM yX6_hasItems M_X6_hasItems 2 := ⟨in_tb 382 (by decide +kernel) rfl, in_tb 8 (by decide +kernel) rfl, by decide +kernel, rfl, rfl⟩
theorem hm_X6_hasItems : M_X6_hasItems.2.2.2.2.2.1 = 0 ∧ M_X6_hasItems.2.2.2.2.2.2.1 = 0 := ⟨rfl, rfl⟩
section
variable {l : Launch} {g : GG}
end
set_option maxRecDepth 100000 in
set_option maxHeartbeats 4000000 in
theorem c_X6_hasItems (l : Launch) (g : GG) (h : AH) (p0 : Nat) (p1 : Int32) (p2 : Int32) : CN l g yX6_hasItems M_X6_hasItems false [.ref p0, .int p1, .int p2] h ((rPi h)) (f_X6_hasItems h p0 p1 p2) := by
  refine CN.of (by decide) rfl (fun hh => by first | rfl | cases hh) (Nat.le_of_ble_eq_true rfl) ?_
  unfold f_X6_hasItems
  refine a_gd (fun hkd => ?_)
  refine a_iload_n dX6_hasItems_0 rfl 1 rfl ?_
  refine a_if_lt 22 dX6_hasItems_1 (by decide) (fun c1 => ?_) (fun c1 => ?_)
  · refine a_iconst (v := 0) dX6_hasItems_22 (by decide) ?_
    exact a_zret dX6_hasItems_23 rfl (Or.inl rfl) rfl (by decide) (by decide)
  · refine a_iload_n dX6_hasItems_4 rfl 2 rfl ?_
    refine a_if_lt 22 dX6_hasItems_5 (by decide) (fun c2 => ?_) (fun c2 => ?_)
    · refine a_iconst (v := 0) dX6_hasItems_22 (by decide) ?_
      exact a_zret dX6_hasItems_23 rfl (Or.inl rfl) rfl (by decide) (by decide)
    · refine a_iload_n dX6_hasItems_8 rfl 1 rfl ?_
      refine a_aload_n dX6_hasItems_9 rfl 0 rfl ?_
      refine a_geti kc7 1 dX6_hasItems_10 (by decide) rfl w_fieldLink_RainCover_Sheet_13 (fun v3 => ?_)
      refine a_iload_n dX6_hasItems_13 rfl 2 rfl ?_
      refine a_isub dX6_hasItems_14 ?_
      refine a_icmp_gt 22 dX6_hasItems_15 (by decide) (fun c4 => ?_) (fun c4 => ?_)
      · refine a_iconst (v := 0) dX6_hasItems_22 (by decide) ?_
        exact a_zret dX6_hasItems_23 rfl (Or.inl rfl) rfl (by decide) (by decide)
      · refine a_iconst (v := 1) dX6_hasItems_18 (by decide) ?_
        refine a_goto 23 dX6_hasItems_19 (by decide) ?_
        exact a_zret dX6_hasItems_23 rfl (Or.inr rfl) rfl (by decide) (by decide)
theorem dX11_lay_0 : decode cX11_lay 0 = .ok (.aload_n 0, 1) := by decide +kernel
theorem dX11_lay_1 : decode cX11_lay 1 = .ok (.iload_n 1, 1) := by decide +kernel
theorem dX11_lay_2 : decode cX11_lay 2 = .ok (.invokevirtual 117, 3) := by decide +kernel
theorem dX11_lay_5 : decode cX11_lay 5 = .ok (.ifCond .eq 10, 3) := by decide +kernel
theorem dX11_lay_8 : decode cX11_lay 8 = .ok (.iload_n 2, 1) := by decide +kernel
theorem dX11_lay_9 : decode cX11_lay 9 = .ok (.invokestatic 100, 3) := by decide +kernel
theorem dX11_lay_12 : decode cX11_lay 12 = .ok (.ifCond .ne 5, 3) := by decide +kernel
theorem dX11_lay_15 : decode cX11_lay 15 = .ok (.iconst (-1), 1) := by decide +kernel
theorem dX11_lay_16 : decode cX11_lay 16 = .ok (.ireturn, 1) := by decide +kernel
theorem dX11_lay_17 : decode cX11_lay 17 = .ok (.aload_n 0, 1) := by decide +kernel
theorem dX11_lay_18 : decode cX11_lay 18 = .ok (.iload_n 3, 1) := by decide +kernel
theorem dX11_lay_19 : decode cX11_lay 19 = .ok (.invokevirtual 150, 3) := by decide +kernel
theorem dX11_lay_22 : decode cX11_lay 22 = .ok (.ifCond .eq 11, 3) := by decide +kernel
theorem dX11_lay_25 : decode cX11_lay 25 = .ok (.iload 4, 2) := by decide +kernel
theorem dX11_lay_27 : decode cX11_lay 27 = .ok (.invokestatic 153, 3) := by decide +kernel
theorem dX11_lay_30 : decode cX11_lay 30 = .ok (.ifCond .ne 6, 3) := by decide +kernel
theorem dX11_lay_33 : decode cX11_lay 33 = .ok (.bipush (-2), 2) := by decide +kernel
theorem dX11_lay_35 : decode cX11_lay 35 = .ok (.ireturn, 1) := by decide +kernel
theorem dX11_lay_36 : decode cX11_lay 36 = .ok (.aload_n 0, 1) := by decide +kernel
theorem dX11_lay_37 : decode cX11_lay 37 = .ok (.getfield 69, 3) := by decide +kernel
theorem dX11_lay_40 : decode cX11_lay 40 = .ok (.iload_n 3, 1) := by decide +kernel
theorem dX11_lay_41 : decode cX11_lay 41 = .ok (.aaload, 1) := by decide +kernel
theorem dX11_lay_42 : decode cX11_lay 42 = .ok (.astore 6, 2) := by decide +kernel
theorem dX11_lay_44 : decode cX11_lay 44 = .ok (.aload 6, 2) := by decide +kernel
theorem dX11_lay_46 : decode cX11_lay 46 = .ok (.invokevirtual 156, 3) := by decide +kernel
theorem dX11_lay_49 : decode cX11_lay 49 = .ok (.ifCond .ne 16, 3) := by decide +kernel
theorem dX11_lay_52 : decode cX11_lay 52 = .ok (.aload 6, 2) := by decide +kernel
theorem dX11_lay_54 : decode cX11_lay 54 = .ok (.getfield 160, 3) := by decide +kernel
theorem dX11_lay_57 : decode cX11_lay 57 = .ok (.iload 4, 2) := by decide +kernel
theorem dX11_lay_59 : decode cX11_lay 59 = .ok (.if_icmp .eq 6, 3) := by decide +kernel
theorem dX11_lay_62 : decode cX11_lay 62 = .ok (.bipush (-13), 2) := by decide +kernel
theorem dX11_lay_64 : decode cX11_lay 64 = .ok (.ireturn, 1) := by decide +kernel
theorem dX11_lay_65 : decode cX11_lay 65 = .ok (.aload 6, 2) := by decide +kernel
theorem dX11_lay_67 : decode cX11_lay 67 = .ok (.invokevirtual 156, 3) := by decide +kernel
theorem dX11_lay_70 : decode cX11_lay 70 = .ok (.ifCond .eq 6, 3) := by decide +kernel
theorem dX11_lay_73 : decode cX11_lay 73 = .ok (.bipush (-11), 2) := by decide +kernel
theorem dX11_lay_75 : decode cX11_lay 75 = .ok (.ireturn, 1) := by decide +kernel
theorem dX11_lay_76 : decode cX11_lay 76 = .ok (.aload 6, 2) := by decide +kernel
theorem dX11_lay_78 : decode cX11_lay 78 = .ok (.iload 5, 2) := by decide +kernel
theorem dX11_lay_80 : decode cX11_lay 80 = .ok (.bipush 12, 2) := by decide +kernel
theorem dX11_lay_82 : decode cX11_lay 82 = .ok (.invokevirtual 163, 3) := by decide +kernel
theorem dX11_lay_85 : decode cX11_lay 85 = .ok (.ifCond .ne 6, 3) := by decide +kernel
theorem dX11_lay_88 : decode cX11_lay 88 = .ok (.bipush (-12), 2) := by decide +kernel
theorem dX11_lay_90 : decode cX11_lay 90 = .ok (.ireturn, 1) := by decide +kernel
theorem dX11_lay_91 : decode cX11_lay 91 = .ok (.aload_n 0, 1) := by decide +kernel
theorem dX11_lay_92 : decode cX11_lay 92 = .ok (.getfield 30, 3) := by decide +kernel
theorem dX11_lay_95 : decode cX11_lay 95 = .ok (.bipush 12, 2) := by decide +kernel
theorem dX11_lay_97 : decode cX11_lay 97 = .ok (.invokevirtual 137, 3) := by decide +kernel
theorem dX11_lay_100 : decode cX11_lay 100 = .ok (.ifCond .ne 6, 3) := by decide +kernel
theorem dX11_lay_103 : decode cX11_lay 103 = .ok (.bipush (-4), 2) := by decide +kernel
theorem dX11_lay_105 : decode cX11_lay 105 = .ok (.ireturn, 1) := by decide +kernel
theorem dX11_lay_106 : decode cX11_lay 106 = .ok (.iconst 0, 1) := by decide +kernel
theorem dX11_lay_107 : decode cX11_lay 107 = .ok (.istore 7, 2) := by decide +kernel
theorem dX11_lay_109 : decode cX11_lay 109 = .ok (.iconst 0, 1) := by decide +kernel
theorem dX11_lay_110 : decode cX11_lay 110 = .ok (.istore 8, 2) := by decide +kernel
theorem dX11_lay_112 : decode cX11_lay 112 = .ok (.iload 8, 2) := by decide +kernel
theorem dX11_lay_114 : decode cX11_lay 114 = .ok (.bipush 12, 2) := by decide +kernel
theorem dX11_lay_116 : decode cX11_lay 116 = .ok (.if_icmp .ge 53, 3) := by decide +kernel
theorem dX11_lay_119 : decode cX11_lay 119 = .ok (.aload 6, 2) := by decide +kernel
theorem dX11_lay_121 : decode cX11_lay 121 = .ok (.getfield 166, 3) := by decide +kernel
theorem dX11_lay_124 : decode cX11_lay 124 = .ok (.iload 5, 2) := by decide +kernel
theorem dX11_lay_126 : decode cX11_lay 126 = .ok (.iload 8, 2) := by decide +kernel
theorem dX11_lay_128 : decode cX11_lay 128 = .ok (.iadd, 1) := by decide +kernel
theorem dX11_lay_129 : decode cX11_lay 129 = .ok (.iaload, 1) := by decide +kernel
theorem dX11_lay_130 : decode cX11_lay 130 = .ok (.istore 9, 2) := by decide +kernel
theorem dX11_lay_132 : decode cX11_lay 132 = .ok (.aload_n 0, 1) := by decide +kernel
theorem dX11_lay_133 : decode cX11_lay 133 = .ok (.getfield 30, 3) := by decide +kernel
theorem dX11_lay_136 : decode cX11_lay 136 = .ok (.iload_n 1, 1) := by decide +kernel
theorem dX11_lay_137 : decode cX11_lay 137 = .ok (.iload_n 2, 1) := by decide +kernel
theorem dX11_lay_138 : decode cX11_lay 138 = .ok (.iload 8, 2) := by decide +kernel
theorem dX11_lay_140 : decode cX11_lay 140 = .ok (.iload 9, 2) := by decide +kernel
theorem dX11_lay_142 : decode cX11_lay 142 = .ok (.iconst 0, 1) := by decide +kernel
theorem dX11_lay_143 : decode cX11_lay 143 = .ok (.sipush 9999, 3) := by decide +kernel
theorem dX11_lay_146 : decode cX11_lay 146 = .ok (.invokestatic 120, 3) := by decide +kernel
theorem dX11_lay_149 : decode cX11_lay 149 = .ok (.ifCond .eq 8, 3) := by decide +kernel
theorem dX11_lay_152 : decode cX11_lay 152 = .ok (.iload 9, 2) := by decide +kernel
theorem dX11_lay_154 : decode cX11_lay 154 = .ok (.goto 4, 3) := by decide +kernel
theorem dX11_lay_157 : decode cX11_lay 157 = .ok (.iconst (-1), 1) := by decide +kernel
theorem dX11_lay_158 : decode cX11_lay 158 = .ok (.invokevirtual 140, 3) := by decide +kernel
theorem dX11_lay_161 : decode cX11_lay 161 = .ok (.istore 7, 2) := by decide +kernel
theorem dX11_lay_163 : decode cX11_lay 163 = .ok (.iinc 8 1, 3) := by decide +kernel
theorem dX11_lay_166 : decode cX11_lay 166 = .ok (.goto (-54), 3) := by decide +kernel
theorem dX11_lay_169 : decode cX11_lay 169 = .ok (.iload 7, 2) := by decide +kernel
theorem dX11_lay_171 : decode cX11_lay 171 = .ok (.ireturn, 1) := by decide +kernel
abbrev M_X11_lay : MI := (RX11, cX11_lay, 10, (some .int), ({ frames := 2, cells := 0, slots := 0, locals := 43 } : Room), 0, 0, false)
def f_X11_lay_b158 (N : Nat) (K112 : AH → Nat → Int32 → Int32 → Int32 → Nat → Int32 → Int32 → Option (Int32 × AH)) (h : AH) (x0 : Nat) (x1 : Int32) (x2 : Int32) (x5 : Int32) (x6 : Nat) (x8 : Int32) (s6 : Int32) (s7 : Int32) (s8 : Int32) (s9 : Int32) (s10 : Nat) : Option (Int32 × AH) := (f_X9_tell h s10 s9 s8 s7 s6).bind fun q28 => K112 q28.2 x0 x1 x2 x5 x6 q28.1 (x8 + 1)
def f_X11_lay_b112_body (N : Nat) (K112 : AH → Nat → Int32 → Int32 → Int32 → Nat → Int32 → Int32 → Option (Int32 × AH)) (h : AH) (x0 : Nat) (x1 : Int32) (x2 : Int32) (x5 : Int32) (x6 : Nat) (x7 : Int32) (x8 : Int32) : Option (Int32 × AH) := (if 12 ≤ x8 then some (x7, h) else (xgr h x6 7 2).bind fun v23 => (xia h v23 (x5 + x8)).bind fun v24 => (xgr h x0 12 4).bind fun v25 => (f_X11_within h v24 0 9999).bind fun v26 => (if v26 = 0 then f_X11_lay_b158 N K112 h x0 x1 x2 x5 x6 x8 (-1) x8 x2 x1 v25 else f_X11_lay_b158 N K112 h x0 x1 x2 x5 x6 x8 v24 x8 x2 x1 v25))
def f_X11_lay_b112 (N : Nat) : Nat → AH → Nat → Int32 → Int32 → Int32 → Nat → Int32 → Int32 → Option (Int32 × AH)
  | 0, _, _, _, _, _, _, _, _ => none
  | n + 1, h, x0, x1, x2, x5, x6, x7, x8 => f_X11_lay_b112_body N  (f_X11_lay_b112 N  n) h x0 x1 x2 x5 x6 x7 x8
def f_X11_lay_b65 (N : Nat) (h : AH) (x0 : Nat) (x1 : Int32) (x2 : Int32) (x5 : Int32) (x6 : Nat) : Option (Int32 × AH) := (f_X6_isMissing h x6).bind fun v15 => (if v15 = 0 then (f_X6_hasItems h x6 x5 12).bind fun v17 => (if v17 = 0 then some ((-12), h) else (xgr h x0 12 4).bind fun v19 => (f_X9_haveRoomFor h v19 12).bind fun v20 => (if v20 = 0 then some ((-4), h) else f_X11_lay_b112 N N h x0 x1 x2 x5 x6 0 0)) else some ((-11), h))
def f_X11_lay (h0 : AH) (N : Nat) (p0 : Nat) (p1 : Int32) (p2 : Int32) (p3 : Int32) (p4 : Int32) (p5 : Int32) : Option (Int32 × AH) := if kd h0 p0 = 12 + 1 then (f_X11_isGauge h0 p0 p1).bind fun v1 => (if v1 = 0 then some ((-1), h0) else (f_X11_isSeason h0 p2).bind fun v3 => (if v3 = 0 then some ((-1), h0) else (f_X11_isSheet h0 p0 p3).bind fun v5 => (if v5 = 0 then some ((-2), h0) else (f_X6_isSort h0 p4).bind fun v7 => (if v7 = 0 then some ((-2), h0) else (xgr h0 p0 12 12).bind fun v9 => (xaa h0 v9 p3).bind fun v10 => (f_X6_isMissing h0 v10).bind fun v11 => (if v11 = 0 then (xgi h0 v10 7 0).bind fun v13 => (if v13 = p4 then f_X11_lay_b65 N h0 p0 p1 p2 p5 v10 else some ((-13), h0)) else f_X11_lay_b65 N h0 p0 p1 p2 p5 v10))))) else none
theorem g_X11_lay {h0 : AH} {N : Nat} {p0 : Nat} {p1 : Int32} {p2 : Int32} {p3 : Int32} {p4 : Int32} {p5 : Int32} {x : (Int32 × AH)} (e : f_X11_lay h0 N p0 p1 p2 p3 p4 p5 = some x) : kd h0 p0 = 12 + 1 := by
  unfold f_X11_lay at e
  by_cases hk : kd h0 p0 = 12 + 1
  · exact hk
  · rw [if_neg hk] at e
    cases e
theorem km_X11_lay : KM yX11_lay M_X11_lay 5 := ⟨in_tb 366 (by decide +kernel) rfl, in_tb 1 (by decide +kernel) rfl, by decide +kernel, rfl, rfl⟩
theorem hm_X11_lay : M_X11_lay.2.2.2.2.2.1 = 0 ∧ M_X11_lay.2.2.2.2.2.2.1 = 0 := ⟨rfl, rfl⟩
section
variable {l : Launch} {g : GG}
set_option maxRecDepth 100000 in
set_option maxHeartbeats 4000000 in
theorem t_X11_lay_b158 (h0 : AH) (N : Nat) (K112 : AH → Nat → Int32 → Int32 → Int32 → Nat → Int32 → Int32 → Option (Int32 × AH)) (hK112 : ∀ (z : AH) (z0 : Nat) (z1 : Int32) (z2 : Int32) (z3 : Int32) (z4 : Nat) (z5 : Int32) (z6 : Int32), AO l g M_X11_lay false h0 112 [(0, .ref z0), (1, .int z1), (2, .int z2), (5, .int z3), (6, .ref z4), (7, .int z5), (8, .int z6)] [] z 0 0 rSi (K112 z z0 z1 z2 z3 z4 z5 z6)) (h : AH) (x0 : Nat) (x1 : Int32) (x2 : Int32) (x5 : Int32) (x6 : Nat) (x8 : Int32) (s6 : Int32) (s7 : Int32) (s8 : Int32) (s9 : Int32) (s10 : Nat) : AO l g M_X11_lay false h0 158 [(0, .ref x0), (1, .int x1), (2, .int x2), (5, .int x5), (6, .ref x6), (8, .int x8)] [.int s6, .int s7, .int s8, .int s9, .ref s10] h 0 0 rSi (f_X11_lay_b158 N K112 h x0 x1 x2 x5 x6 x8 s6 s7 s8 s9 s10) := by
  unfold f_X11_lay_b158
  refine a_cV_Si (r := s10) (ci := 10) (as := [.int s9, .int s8, .int s7, .int s6]) (st := []) dX11_lay_158 (c_X9_tell l g h s10 s9 s8 s7 s6) rfl km_X9_tell (hm_X9_tell) rfl (by decide) rfl (fun _ ee => g_X9_tell ee) w_methodLink_RainCover_140 w_instanceMethod_RainCover_Tellings_tell__IIII_I w_selects_RainCover_Tellings_RainCover_Tellings_tell__IIII_I_RainCover_Tellings_tell__IIII_I ⟨⟨by decide, by decide⟩, ⟨by decide, by decide⟩⟩ (Nat.le_of_ble_eq_true rfl) (fun q28 => ?_)
  refine a_istore (lc2 := [(7, .int q28.1), (0, .ref x0), (1, .int x1), (2, .int x2), (5, .int x5), (6, .ref x6), (8, .int x8)]) dX11_lay_161 (by decide) rfl ?_
  refine a_iinc (q := 6) (v := (x8 + 1)) (lc2 := [(8, .int (x8 + 1)), (7, .int q28.1), (0, .ref x0), (1, .int x1), (2, .int x2), (5, .int x5), (6, .ref x6)]) dX11_lay_163 rfl rfl (by decide) rfl ?_
  refine a_goto 112 dX11_lay_166 (by decide) ?_
  refine a_pick (lc2 := [(0, .ref x0), (1, .int x1), (2, .int x2), (5, .int x5), (6, .ref x6), (7, .int q28.1), (8, .int (x8 + 1))]) [2, 3, 4, 5, 6, 1, 0] rfl ?_
  exact hK112 q28.2 x0 x1 x2 x5 x6 q28.1 (x8 + 1)
set_option maxRecDepth 100000 in
set_option maxHeartbeats 4000000 in
theorem t_X11_lay_b112_body (h0 : AH) (N : Nat) (K112 : AH → Nat → Int32 → Int32 → Int32 → Nat → Int32 → Int32 → Option (Int32 × AH)) (hK112 : ∀ (z : AH) (z0 : Nat) (z1 : Int32) (z2 : Int32) (z3 : Int32) (z4 : Nat) (z5 : Int32) (z6 : Int32), AO l g M_X11_lay false h0 112 [(0, .ref z0), (1, .int z1), (2, .int z2), (5, .int z3), (6, .ref z4), (7, .int z5), (8, .int z6)] [] z 0 0 rSi (K112 z z0 z1 z2 z3 z4 z5 z6)) (h : AH) (x0 : Nat) (x1 : Int32) (x2 : Int32) (x5 : Int32) (x6 : Nat) (x7 : Int32) (x8 : Int32) : AO l g M_X11_lay false h0 112 [(0, .ref x0), (1, .int x1), (2, .int x2), (5, .int x5), (6, .ref x6), (7, .int x7), (8, .int x8)] [] h 0 0 rSi (f_X11_lay_b112_body N K112 h x0 x1 x2 x5 x6 x7 x8) := by
  unfold f_X11_lay_b112_body
  refine a_iload dX11_lay_112 6 rfl ?_
  refine a_bipush (v := 12) dX11_lay_114 (by decide) ?_
  refine a_icmp_ge 169 dX11_lay_116 (by decide) (fun c22 => ?_) (fun c22 => ?_)
  · refine a_iload dX11_lay_169 5 rfl ?_
    exact a_iret dX11_lay_171 rfl rfl (by decide) (by decide)
  · refine a_aload dX11_lay_119 4 rfl ?_
    refine a_getr kc7 2 dX11_lay_121 (by decide) rfl w_fieldLink_RainCover_166 (fun v23 => ?_)
    refine a_iload dX11_lay_124 3 rfl ?_
    refine a_iload dX11_lay_126 6 rfl ?_
    refine a_iadd dX11_lay_128 ?_
    refine a_iald dX11_lay_129 (fun v24 => ?_)
    refine a_istore (lc2 := [(9, .int v24), (0, .ref x0), (1, .int x1), (2, .int x2), (5, .int x5), (6, .ref x6), (7, .int x7), (8, .int x8)]) dX11_lay_130 (by decide) rfl ?_
    refine a_aload_n dX11_lay_132 rfl 1 rfl ?_
    refine a_getr kc12 4 dX11_lay_133 (by decide) rfl w_fieldLink_RainCover_30 (fun v25 => ?_)
    refine a_iload_n dX11_lay_136 rfl 2 rfl ?_
    refine a_iload_n dX11_lay_137 rfl 3 rfl ?_
    refine a_iload dX11_lay_138 7 rfl ?_
    refine a_iload dX11_lay_140 0 rfl ?_
    refine a_iconst (v := 0) dX11_lay_142 (by decide) ?_
    refine a_sipush (v := 9999) dX11_lay_143 (by decide) ?_
    refine a_cS_Pi (as := [.int v24, .int 0, .int 9999]) (st := [.int x8, .int x2, .int x1, .ref v25]) dX11_lay_146 (c_X11_within l g h v24 0 9999) rfl km_X11_within (hm_X11_within) w_methodLink_RainCover_120 w_static_RainCover_within__III_Z ⟨⟨by decide, by decide⟩, ⟨by decide, by decide⟩⟩ (Nat.le_of_ble_eq_true rfl) (fun v26 => ?_)
    refine a_if_eq 157 dX11_lay_149 (by decide) (fun c27 => ?_) (fun c27 => ?_)
    · refine a_iconst (v := (-1)) dX11_lay_157 (by decide) ?_
      refine a_pick (lc2 := [(0, .ref x0), (1, .int x1), (2, .int x2), (5, .int x5), (6, .ref x6), (8, .int x8)]) [1, 2, 3, 4, 5, 7] rfl ?_
      exact t_X11_lay_b158 h0 N K112 hK112 h x0 x1 x2 x5 x6 x8 (-1) x8 x2 x1 v25
    · refine a_iload dX11_lay_152 0 rfl ?_
      refine a_goto 158 dX11_lay_154 (by decide) ?_
      refine a_pick (lc2 := [(0, .ref x0), (1, .int x1), (2, .int x2), (5, .int x5), (6, .ref x6), (8, .int x8)]) [1, 2, 3, 4, 5, 7] rfl ?_
      exact t_X11_lay_b158 h0 N K112 hK112 h x0 x1 x2 x5 x6 x8 v24 x8 x2 x1 v25
set_option maxRecDepth 100000 in
set_option maxHeartbeats 4000000 in
theorem t_X11_lay_b112 (h0 : AH) (N : Nat) : ∀ (n : Nat) (h : AH) (x0 : Nat) (x1 : Int32) (x2 : Int32) (x5 : Int32) (x6 : Nat) (x7 : Int32) (x8 : Int32) , AO l g M_X11_lay false h0 112 [(0, .ref x0), (1, .int x1), (2, .int x2), (5, .int x5), (6, .ref x6), (7, .int x7), (8, .int x8)] [] h 0 0 rSi (f_X11_lay_b112 N  n h x0 x1 x2 x5 x6 x7 x8) := by
  intro n
  induction n with
  | zero => intro h x0 x1 x2 x5 x6 x7 x8; exact a_eq rfl a_none
  | succ n ih => intro h x0 x1 x2 x5 x6 x7 x8; exact a_eq rfl (t_X11_lay_b112_body h0 N  (f_X11_lay_b112 N  n) ih h x0 x1 x2 x5 x6 x7 x8)
set_option maxRecDepth 100000 in
set_option maxHeartbeats 4000000 in
theorem t_X11_lay_b65 (h0 : AH) (N : Nat) (h : AH) (x0 : Nat) (x1 : Int32) (x2 : Int32) (x5 : Int32) (x6 : Nat) : AO l g M_X11_lay false h0 65 [(0, .ref x0), (1, .int x1), (2, .int x2), (5, .int x5), (6, .ref x6)] [] h 0 0 rSi (f_X11_lay_b65 N  h x0 x1 x2 x5 x6) := by
  unfold f_X11_lay_b65
  refine a_aload dX11_lay_65 4 rfl ?_
  refine a_cV_Pi (r := x6) (ci := 7) (as := []) (st := []) dX11_lay_67 (c_X6_isMissing l g h x6) rfl km_X6_isMissing (hm_X6_isMissing) rfl (by decide) rfl (fun _ ee => g_X6_isMissing ee) w_methodLink_RainCover_156 w_instanceMethod_RainCover_Sheet_isMissing___Z w_selects_RainCover_Sheet_RainCover_Sheet_isMissing___Z_RainCover_Sheet_isMissing___Z ⟨⟨by decide, by decide⟩, ⟨by decide, by decide⟩⟩ (Nat.le_of_ble_eq_true rfl) (fun v15 => ?_)
  refine a_if_eq 76 dX11_lay_70 (by decide) (fun c16 => ?_) (fun c16 => ?_)
  · refine a_aload dX11_lay_76 4 rfl ?_
    refine a_iload dX11_lay_78 3 rfl ?_
    refine a_bipush (v := 12) dX11_lay_80 (by decide) ?_
    refine a_cV_Pi (r := x6) (ci := 7) (as := [.int x5, .int 12]) (st := []) dX11_lay_82 (c_X6_hasItems l g h x6 x5 12) rfl km_X6_hasItems (hm_X6_hasItems) rfl (by decide) rfl (fun _ ee => g_X6_hasItems ee) w_methodLink_RainCover_163 w_instanceMethod_RainCover_Sheet_hasItems__II_Z w_selects_RainCover_Sheet_RainCover_Sheet_hasItems__II_Z_RainCover_Sheet_hasItems__II_Z ⟨⟨by decide, by decide⟩, ⟨by decide, by decide⟩⟩ (Nat.le_of_ble_eq_true rfl) (fun v17 => ?_)
    refine a_if_ne 91 dX11_lay_85 (by decide) (fun c18 => ?_) (fun c18 => ?_)
    · refine a_bipush (v := (-12)) dX11_lay_88 (by decide) ?_
      exact a_iret dX11_lay_90 rfl rfl (by decide) (by decide)
    · refine a_aload_n dX11_lay_91 rfl 0 rfl ?_
      refine a_getr kc12 4 dX11_lay_92 (by decide) rfl w_fieldLink_RainCover_30 (fun v19 => ?_)
      refine a_bipush (v := 12) dX11_lay_95 (by decide) ?_
      refine a_cV_Pi (r := v19) (ci := 10) (as := [.int 12]) (st := []) dX11_lay_97 (c_X9_haveRoomFor l g h v19 12) rfl km_X9_haveRoomFor (hm_X9_haveRoomFor) rfl (by decide) rfl (fun _ ee => g_X9_haveRoomFor ee) w_methodLink_RainCover_137 w_instanceMethod_RainCover_Tellings_haveRoomFor__I_Z w_selects_RainCover_Tellings_RainCover_Tellings_haveRoomFor__I_Z_RainCover_Tellings_haveRoomFor__I_Z ⟨⟨by decide, by decide⟩, ⟨by decide, by decide⟩⟩ (Nat.le_of_ble_eq_true rfl) (fun v20 => ?_)
      refine a_if_ne 106 dX11_lay_100 (by decide) (fun c21 => ?_) (fun c21 => ?_)
      · refine a_bipush (v := (-4)) dX11_lay_103 (by decide) ?_
        exact a_iret dX11_lay_105 rfl rfl (by decide) (by decide)
      · refine a_iconst (v := 0) dX11_lay_106 (by decide) ?_
        refine a_istore (lc2 := [(7, .int 0), (0, .ref x0), (1, .int x1), (2, .int x2), (5, .int x5), (6, .ref x6)]) dX11_lay_107 (by decide) rfl ?_
        refine a_iconst (v := 0) dX11_lay_109 (by decide) ?_
        refine a_istore (lc2 := [(8, .int 0), (7, .int 0), (0, .ref x0), (1, .int x1), (2, .int x2), (5, .int x5), (6, .ref x6)]) dX11_lay_110 (by decide) rfl ?_
        refine a_pick (lc2 := [(0, .ref x0), (1, .int x1), (2, .int x2), (5, .int x5), (6, .ref x6), (7, .int 0), (8, .int 0)]) [2, 3, 4, 5, 6, 1, 0] rfl ?_
        exact t_X11_lay_b112 h0 N N h x0 x1 x2 x5 x6 0 0
  · refine a_bipush (v := (-11)) dX11_lay_73 (by decide) ?_
    exact a_iret dX11_lay_75 rfl rfl (by decide) (by decide)
end
set_option maxRecDepth 100000 in
set_option maxHeartbeats 4000000 in
theorem c_X11_lay (l : Launch) (g : GG) (h0 : AH) (N : Nat) (p0 : Nat) (p1 : Int32) (p2 : Int32) (p3 : Int32) (p4 : Int32) (p5 : Int32) : CN l g yX11_lay M_X11_lay false [.ref p0, .int p1, .int p2, .int p3, .int p4, .int p5] h0 rSi (f_X11_lay h0 N p0 p1 p2 p3 p4 p5) := by
  refine CN.of (by decide) rfl (fun hh => by first | rfl | cases hh) (Nat.le_of_ble_eq_true rfl) ?_
  unfold f_X11_lay
  refine a_gd (fun hkd => ?_)
  refine a_aload_n dX11_lay_0 rfl 0 rfl ?_
  refine a_iload_n dX11_lay_1 rfl 1 rfl ?_
  refine a_cV_Pi (r := p0) (ci := 12) (as := [.int p1]) (st := []) dX11_lay_2 (c_X11_isGauge l g h0 p0 p1) rfl km_X11_isGauge (hm_X11_isGauge) rfl (by decide) rfl (fun _ ee => g_X11_isGauge ee) w_methodLink_RainCover_117 w_instanceMethod_RainCover_isGauge__I_Z w_selects_RainCover_RainCover_isGauge__I_Z_RainCover_isGauge__I_Z ⟨⟨by decide, by decide⟩, ⟨by decide, by decide⟩⟩ (Nat.le_of_ble_eq_true rfl) (fun v1 => ?_)
  refine a_if_eq 15 dX11_lay_5 (by decide) (fun c2 => ?_) (fun c2 => ?_)
  · refine a_iconst (v := (-1)) dX11_lay_15 (by decide) ?_
    exact a_iret dX11_lay_16 rfl rfl (by decide) (by decide)
  · refine a_iload_n dX11_lay_8 rfl 2 rfl ?_
    refine a_cS_Pi (as := [.int p2]) (st := []) dX11_lay_9 (c_X11_isSeason l g h0 p2) rfl km_X11_isSeason (hm_X11_isSeason) w_methodLink_RainCover_100 w_static_RainCover_isSeason__I_Z ⟨⟨by decide, by decide⟩, ⟨by decide, by decide⟩⟩ (Nat.le_of_ble_eq_true rfl) (fun v3 => ?_)
    refine a_if_ne 17 dX11_lay_12 (by decide) (fun c4 => ?_) (fun c4 => ?_)
    · refine a_iconst (v := (-1)) dX11_lay_15 (by decide) ?_
      exact a_iret dX11_lay_16 rfl rfl (by decide) (by decide)
    · refine a_aload_n dX11_lay_17 rfl 0 rfl ?_
      refine a_iload_n dX11_lay_18 rfl 3 rfl ?_
      refine a_cV_Pi (r := p0) (ci := 12) (as := [.int p3]) (st := []) dX11_lay_19 (c_X11_isSheet l g h0 p0 p3) rfl km_X11_isSheet (hm_X11_isSheet) rfl (by decide) rfl (fun _ ee => g_X11_isSheet ee) w_methodLink_RainCover_150 w_instanceMethod_RainCover_isSheet__I_Z w_selects_RainCover_RainCover_isSheet__I_Z_RainCover_isSheet__I_Z ⟨⟨by decide, by decide⟩, ⟨by decide, by decide⟩⟩ (Nat.le_of_ble_eq_true rfl) (fun v5 => ?_)
      refine a_if_eq 33 dX11_lay_22 (by decide) (fun c6 => ?_) (fun c6 => ?_)
      · refine a_bipush (v := (-2)) dX11_lay_33 (by decide) ?_
        exact a_iret dX11_lay_35 rfl rfl (by decide) (by decide)
      · refine a_iload dX11_lay_25 4 rfl ?_
        refine a_cS_Pi (as := [.int p4]) (st := []) dX11_lay_27 (c_X6_isSort l g h0 p4) rfl km_X6_isSort (hm_X6_isSort) w_methodLink_RainCover_153 w_static_RainCover_Sheet_isSort__I_Z ⟨⟨by decide, by decide⟩, ⟨by decide, by decide⟩⟩ (Nat.le_of_ble_eq_true rfl) (fun v7 => ?_)
        refine a_if_ne 36 dX11_lay_30 (by decide) (fun c8 => ?_) (fun c8 => ?_)
        · refine a_bipush (v := (-2)) dX11_lay_33 (by decide) ?_
          exact a_iret dX11_lay_35 rfl rfl (by decide) (by decide)
        · refine a_aload_n dX11_lay_36 rfl 0 rfl ?_
          refine a_getr kc12 12 dX11_lay_37 (by decide) rfl w_fieldLink_RainCover_69 (fun v9 => ?_)
          refine a_iload_n dX11_lay_40 rfl 3 rfl ?_
          refine a_aald dX11_lay_41 (fun v10 => ?_)
          refine a_astore (lc2 := [(6, .ref v10), (0, .ref p0), (1, .int p1), (2, .int p2), (3, .int p3), (4, .int p4), (5, .int p5)]) dX11_lay_42 (by decide) rfl ?_
          refine a_aload dX11_lay_44 0 rfl ?_
          refine a_cV_Pi (r := v10) (ci := 7) (as := []) (st := []) dX11_lay_46 (c_X6_isMissing l g h0 v10) rfl km_X6_isMissing (hm_X6_isMissing) rfl (by decide) rfl (fun _ ee => g_X6_isMissing ee) w_methodLink_RainCover_156 w_instanceMethod_RainCover_Sheet_isMissing___Z w_selects_RainCover_Sheet_RainCover_Sheet_isMissing___Z_RainCover_Sheet_isMissing___Z ⟨⟨by decide, by decide⟩, ⟨by decide, by decide⟩⟩ (Nat.le_of_ble_eq_true rfl) (fun v11 => ?_)
          refine a_if_ne 65 dX11_lay_49 (by decide) (fun c12 => ?_) (fun c12 => ?_)
          · refine a_aload dX11_lay_52 0 rfl ?_
            refine a_geti kc7 0 dX11_lay_54 (by decide) rfl w_fieldLink_RainCover_160 (fun v13 => ?_)
            refine a_iload dX11_lay_57 5 rfl ?_
            refine a_icmp_eq 65 dX11_lay_59 (by decide) (fun c14 => ?_) (fun c14 => ?_)
            · refine a_pick (lc2 := [(0, .ref p0), (1, .int p1), (2, .int p2), (5, .int p5), (6, .ref v10)]) [1, 2, 3, 6, 0] rfl ?_
              exact t_X11_lay_b65 h0 N h0 p0 p1 p2 p5 v10
            · refine a_bipush (v := (-13)) dX11_lay_62 (by decide) ?_
              exact a_iret dX11_lay_64 rfl rfl (by decide) (by decide)
          · refine a_pick (lc2 := [(0, .ref p0), (1, .int p1), (2, .int p2), (5, .int p5), (6, .ref v10)]) [1, 2, 3, 6, 0] rfl ?_
            exact t_X11_lay_b65 h0 N h0 p0 p1 p2 p5 v10
theorem dX11_told_0 : decode cX11_told 0 = .ok (.aload_n 0, 1) := by decide +kernel
theorem dX11_told_1 : decode cX11_told 1 = .ok (.iload_n 1, 1) := by decide +kernel
theorem dX11_told_2 : decode cX11_told 2 = .ok (.iload_n 2, 1) := by decide +kernel
theorem dX11_told_3 : decode cX11_told 3 = .ok (.iload_n 3, 1) := by decide +kernel
theorem dX11_told_4 : decode cX11_told 4 = .ok (.invokevirtual 134, 3) := by decide +kernel
theorem dX11_told_7 : decode cX11_told 7 = .ok (.ifCond .eq 8, 3) := by decide +kernel
theorem dX11_told_10 : decode cX11_told 10 = .ok (.iload 4, 2) := by decide +kernel
theorem dX11_told_12 : decode cX11_told 12 = .ok (.ifCond .ge 6, 3) := by decide +kernel
theorem dX11_told_15 : decode cX11_told 15 = .ok (.bipush (-5), 2) := by decide +kernel
theorem dX11_told_17 : decode cX11_told 17 = .ok (.ireturn, 1) := by decide +kernel
theorem dX11_told_18 : decode cX11_told 18 = .ok (.aload_n 0, 1) := by decide +kernel
theorem dX11_told_19 : decode cX11_told 19 = .ok (.getfield 30, 3) := by decide +kernel
theorem dX11_told_22 : decode cX11_told 22 = .ok (.iload_n 1, 1) := by decide +kernel
theorem dX11_told_23 : decode cX11_told 23 = .ok (.iload_n 2, 1) := by decide +kernel
theorem dX11_told_24 : decode cX11_told 24 = .ok (.iload_n 3, 1) := by decide +kernel
theorem dX11_told_25 : decode cX11_told 25 = .ok (.iload 4, 2) := by decide +kernel
theorem dX11_told_27 : decode cX11_told 27 = .ok (.invokevirtual 147, 3) := by decide +kernel
theorem dX11_told_30 : decode cX11_told 30 = .ok (.ireturn, 1) := by decide +kernel
abbrev M_X11_told : MI := (RX11, cX11_told, 5, (some .int), ({ frames := 3, cells := 0, slots := 0, locals := 66 } : Room), 0, 0, false)
def f_X11_told (h : AH) (N : Nat) (p0 : Nat) (p1 : Int32) (p2 : Int32) (p3 : Int32) (p4 : Int32) : Option Int32 := if kd h p0 = 12 + 1 then (f_X11_isGaugeWeek h p0 p1 p2 p3).bind fun v1 => (if v1 = 0 then some (-5) else (if 0 ≤ p4 then (xgr h p0 12 4).bind fun v4 => (f_X9_asKnown h N v4 p1 p2 p3 p4).bind fun v5 => some v5 else some (-5))) else none
theorem g_X11_told {h : AH} {N : Nat} {p0 : Nat} {p1 : Int32} {p2 : Int32} {p3 : Int32} {p4 : Int32} {x : Int32} (e : f_X11_told h N p0 p1 p2 p3 p4 = some x) : kd h p0 = 12 + 1 := by
  unfold f_X11_told at e
  by_cases hk : kd h p0 = 12 + 1
  · exact hk
  · rw [if_neg hk] at e
    cases e
theorem km_X11_told : KM yX11_told M_X11_told 4 := ⟨in_tb 386 (by decide +kernel) rfl, in_tb 1 (by decide +kernel) rfl, by decide +kernel, rfl, rfl⟩
theorem hm_X11_told : M_X11_told.2.2.2.2.2.1 = 0 ∧ M_X11_told.2.2.2.2.2.2.1 = 0 := ⟨rfl, rfl⟩
section
variable {l : Launch} {g : GG}
end
set_option maxRecDepth 100000 in
set_option maxHeartbeats 4000000 in
theorem c_X11_told (l : Launch) (g : GG) (h : AH) (N : Nat) (p0 : Nat) (p1 : Int32) (p2 : Int32) (p3 : Int32) (p4 : Int32) : CN l g yX11_told M_X11_told false [.ref p0, .int p1, .int p2, .int p3, .int p4] h ((rPi h)) (f_X11_told h N p0 p1 p2 p3 p4) := by
  refine CN.of (by decide) rfl (fun hh => by first | rfl | cases hh) (Nat.le_of_ble_eq_true rfl) ?_
  unfold f_X11_told
  refine a_gd (fun hkd => ?_)
  refine a_aload_n dX11_told_0 rfl 0 rfl ?_
  refine a_iload_n dX11_told_1 rfl 1 rfl ?_
  refine a_iload_n dX11_told_2 rfl 2 rfl ?_
  refine a_iload_n dX11_told_3 rfl 3 rfl ?_
  refine a_cV_Pi (r := p0) (ci := 12) (as := [.int p1, .int p2, .int p3]) (st := []) dX11_told_4 (c_X11_isGaugeWeek l g h p0 p1 p2 p3) rfl km_X11_isGaugeWeek (hm_X11_isGaugeWeek) rfl (by decide) rfl (fun _ ee => g_X11_isGaugeWeek ee) w_methodLink_RainCover_134 w_instanceMethod_RainCover_isGaugeWeek__III_Z w_selects_RainCover_RainCover_isGaugeWeek__III_Z_RainCover_isGaugeWeek__III_Z ⟨⟨by decide, by decide⟩, ⟨by decide, by decide⟩⟩ (Nat.le_of_ble_eq_true rfl) (fun v1 => ?_)
  refine a_if_eq 15 dX11_told_7 (by decide) (fun c2 => ?_) (fun c2 => ?_)
  · refine a_bipush (v := (-5)) dX11_told_15 (by decide) ?_
    exact a_iret dX11_told_17 rfl rfl (by decide) (by decide)
  · refine a_iload dX11_told_10 4 rfl ?_
    refine a_if_ge 18 dX11_told_12 (by decide) (fun c3 => ?_) (fun c3 => ?_)
    · refine a_aload_n dX11_told_18 rfl 0 rfl ?_
      refine a_getr kc12 4 dX11_told_19 (by decide) rfl w_fieldLink_RainCover_30 (fun v4 => ?_)
      refine a_iload_n dX11_told_22 rfl 1 rfl ?_
      refine a_iload_n dX11_told_23 rfl 2 rfl ?_
      refine a_iload_n dX11_told_24 rfl 3 rfl ?_
      refine a_iload dX11_told_25 4 rfl ?_
      refine a_cV_Pi (r := v4) (ci := 10) (as := [.int p1, .int p2, .int p3, .int p4]) (st := []) dX11_told_27 (c_X9_asKnown l g h N v4 p1 p2 p3 p4) rfl km_X9_asKnown (hm_X9_asKnown) rfl (by decide) rfl (fun _ ee => g_X9_asKnown ee) w_methodLink_RainCover_147 w_instanceMethod_RainCover_Tellings_asKnown__IIII_I w_selects_RainCover_Tellings_RainCover_Tellings_asKnown__IIII_I_RainCover_Tellings_asKnown__IIII_I ⟨⟨by decide, by decide⟩, ⟨by decide, by decide⟩⟩ (Nat.le_of_ble_eq_true rfl) (fun v5 => ?_)
      exact a_iret dX11_told_30 rfl rfl (by decide) (by decide)
    · refine a_bipush (v := (-5)) dX11_told_15 (by decide) ?_
      exact a_iret dX11_told_17 rfl rfl (by decide) (by decide)
theorem dX11_distance_0 : decode cX11_distance 0 = .ok (.iload_n 0, 1) := by decide +kernel
theorem dX11_distance_1 : decode cX11_distance 1 = .ok (.iload_n 2, 1) := by decide +kernel
theorem dX11_distance_2 : decode cX11_distance 2 = .ok (.if_icmp .le 9, 3) := by decide +kernel
theorem dX11_distance_5 : decode cX11_distance 5 = .ok (.iload_n 0, 1) := by decide +kernel
theorem dX11_distance_6 : decode cX11_distance 6 = .ok (.iload_n 2, 1) := by decide +kernel
theorem dX11_distance_7 : decode cX11_distance 7 = .ok (.isub, 1) := by decide +kernel
theorem dX11_distance_8 : decode cX11_distance 8 = .ok (.goto 6, 3) := by decide +kernel
theorem dX11_distance_11 : decode cX11_distance 11 = .ok (.iload_n 2, 1) := by decide +kernel
theorem dX11_distance_12 : decode cX11_distance 12 = .ok (.iload_n 0, 1) := by decide +kernel
theorem dX11_distance_13 : decode cX11_distance 13 = .ok (.isub, 1) := by decide +kernel
theorem dX11_distance_14 : decode cX11_distance 14 = .ok (.istore 4, 2) := by decide +kernel
theorem dX11_distance_16 : decode cX11_distance 16 = .ok (.iload_n 1, 1) := by decide +kernel
theorem dX11_distance_17 : decode cX11_distance 17 = .ok (.iload_n 3, 1) := by decide +kernel
theorem dX11_distance_18 : decode cX11_distance 18 = .ok (.if_icmp .le 9, 3) := by decide +kernel
theorem dX11_distance_21 : decode cX11_distance 21 = .ok (.iload_n 1, 1) := by decide +kernel
theorem dX11_distance_22 : decode cX11_distance 22 = .ok (.iload_n 3, 1) := by decide +kernel
theorem dX11_distance_23 : decode cX11_distance 23 = .ok (.isub, 1) := by decide +kernel
theorem dX11_distance_24 : decode cX11_distance 24 = .ok (.goto 6, 3) := by decide +kernel
theorem dX11_distance_27 : decode cX11_distance 27 = .ok (.iload_n 3, 1) := by decide +kernel
theorem dX11_distance_28 : decode cX11_distance 28 = .ok (.iload_n 1, 1) := by decide +kernel
theorem dX11_distance_29 : decode cX11_distance 29 = .ok (.isub, 1) := by decide +kernel
theorem dX11_distance_30 : decode cX11_distance 30 = .ok (.istore 5, 2) := by decide +kernel
theorem dX11_distance_32 : decode cX11_distance 32 = .ok (.iload 4, 2) := by decide +kernel
theorem dX11_distance_34 : decode cX11_distance 34 = .ok (.iload 5, 2) := by decide +kernel
theorem dX11_distance_36 : decode cX11_distance 36 = .ok (.iadd, 1) := by decide +kernel
theorem dX11_distance_37 : decode cX11_distance 37 = .ok (.ireturn, 1) := by decide +kernel
abbrev M_X11_distance : MI := (RX11, cX11_distance, 6, (some .int), ({ frames := 0, cells := 0, slots := 0, locals := 0 } : Room), 0, 0, false)
def f_X11_distance_b30 (h : AH) (x4 : Int32) (s1 : Int32) : Option Int32 := some (x4 + s1)
def f_X11_distance_b14 (h : AH) (x1 : Int32) (x3 : Int32) (s2 : Int32) : Option Int32 := (if x1 ≤ x3 then f_X11_distance_b30 h s2 (x3 - x1) else f_X11_distance_b30 h s2 (x1 - x3))
def f_X11_distance (h : AH) (p0 : Int32) (p1 : Int32) (p2 : Int32) (p3 : Int32) : Option Int32 := (if p0 ≤ p2 then f_X11_distance_b14 h p1 p3 (p2 - p0) else f_X11_distance_b14 h p1 p3 (p0 - p2))
theorem km_X11_distance : KM yX11_distance M_X11_distance 4 := ⟨in_tb 401 (by decide +kernel) rfl, in_tb 1 (by decide +kernel) rfl, by decide +kernel, rfl, rfl⟩
theorem hm_X11_distance : M_X11_distance.2.2.2.2.2.1 = 0 ∧ M_X11_distance.2.2.2.2.2.2.1 = 0 := ⟨rfl, rfl⟩
section
variable {l : Launch} {g : GG}
set_option maxRecDepth 100000 in
set_option maxHeartbeats 4000000 in
theorem t_X11_distance_b30 (h : AH) (x4 : Int32) (s1 : Int32) : AO l g M_X11_distance false h 30 [(4, .int x4)] [.int s1] h 0 0 (rPi h) (f_X11_distance_b30 h  x4 s1) := by
  unfold f_X11_distance_b30
  refine a_istore (lc2 := [(5, .int s1), (4, .int x4)]) dX11_distance_30 (by decide) rfl ?_
  refine a_iload dX11_distance_32 1 rfl ?_
  refine a_iload dX11_distance_34 0 rfl ?_
  refine a_iadd dX11_distance_36 ?_
  exact a_iret dX11_distance_37 rfl rfl (by decide) (by decide)
set_option maxRecDepth 100000 in
set_option maxHeartbeats 4000000 in
theorem t_X11_distance_b14 (h : AH) (x1 : Int32) (x3 : Int32) (s2 : Int32) : AO l g M_X11_distance false h 14 [(1, .int x1), (3, .int x3)] [.int s2] h 0 0 (rPi h) (f_X11_distance_b14 h  x1 x3 s2) := by
  unfold f_X11_distance_b14
  refine a_istore (lc2 := [(4, .int s2), (1, .int x1), (3, .int x3)]) dX11_distance_14 (by decide) rfl ?_
  refine a_iload_n dX11_distance_16 rfl 1 rfl ?_
  refine a_iload_n dX11_distance_17 rfl 2 rfl ?_
  refine a_icmp_le 27 dX11_distance_18 (by decide) (fun c2 => ?_) (fun c2 => ?_)
  · refine a_iload_n dX11_distance_27 rfl 2 rfl ?_
    refine a_iload_n dX11_distance_28 rfl 1 rfl ?_
    refine a_isub dX11_distance_29 ?_
    refine a_pick (lc2 := [(4, .int s2)]) [0] rfl ?_
    exact t_X11_distance_b30 h s2 (x3 - x1)
  · refine a_iload_n dX11_distance_21 rfl 1 rfl ?_
    refine a_iload_n dX11_distance_22 rfl 2 rfl ?_
    refine a_isub dX11_distance_23 ?_
    refine a_goto 30 dX11_distance_24 (by decide) ?_
    refine a_pick (lc2 := [(4, .int s2)]) [0] rfl ?_
    exact t_X11_distance_b30 h s2 (x1 - x3)
end
set_option maxRecDepth 100000 in
set_option maxHeartbeats 4000000 in
theorem c_X11_distance (l : Launch) (g : GG) (h : AH) (p0 : Int32) (p1 : Int32) (p2 : Int32) (p3 : Int32) : CN l g yX11_distance M_X11_distance false [.int p0, .int p1, .int p2, .int p3] h ((rPi h)) (f_X11_distance h p0 p1 p2 p3) := by
  refine CN.of (by decide) rfl (fun hh => by first | rfl | cases hh) (Nat.le_of_ble_eq_true rfl) ?_
  unfold f_X11_distance
  refine a_iload_n dX11_distance_0 rfl 0 rfl ?_
  refine a_iload_n dX11_distance_1 rfl 2 rfl ?_
  refine a_icmp_le 11 dX11_distance_2 (by decide) (fun c1 => ?_) (fun c1 => ?_)
  · refine a_iload_n dX11_distance_11 rfl 2 rfl ?_
    refine a_iload_n dX11_distance_12 rfl 0 rfl ?_
    refine a_isub dX11_distance_13 ?_
    refine a_pick (lc2 := [(1, .int p1), (3, .int p3)]) [1, 3] rfl ?_
    exact t_X11_distance_b14 h p1 p3 (p2 - p0)
  · refine a_iload_n dX11_distance_5 rfl 0 rfl ?_
    refine a_iload_n dX11_distance_6 rfl 2 rfl ?_
    refine a_isub dX11_distance_7 ?_
    refine a_goto 14 dX11_distance_8 (by decide) ?_
    refine a_pick (lc2 := [(1, .int p1), (3, .int p3)]) [1, 3] rfl ?_
    exact t_X11_distance_b14 h p1 p3 (p0 - p2)
theorem dX11_nearestTold_0 : decode cX11_nearestTold 0 = .ok (.iconst (-1), 1) := by decide +kernel
theorem dX11_nearestTold_1 : decode cX11_nearestTold 1 = .ok (.istore 5, 2) := by decide +kernel
theorem dX11_nearestTold_3 : decode cX11_nearestTold 3 = .ok (.aload_n 0, 1) := by decide +kernel
theorem dX11_nearestTold_4 : decode cX11_nearestTold 4 = .ok (.getfield 41, 3) := by decide +kernel
theorem dX11_nearestTold_7 : decode cX11_nearestTold 7 = .ok (.iconst 0, 1) := by decide +kernel
theorem dX11_nearestTold_8 : decode cX11_nearestTold 8 = .ok (.iaload, 1) := by decide +kernel
theorem dX11_nearestTold_9 : decode cX11_nearestTold 9 = .ok (.iconst 1, 1) := by decide +kernel
theorem dX11_nearestTold_10 : decode cX11_nearestTold 10 = .ok (.iadd, 1) := by decide +kernel
theorem dX11_nearestTold_11 : decode cX11_nearestTold 11 = .ok (.istore 6, 2) := by decide +kernel
theorem dX11_nearestTold_13 : decode cX11_nearestTold 13 = .ok (.aload_n 0, 1) := by decide +kernel
theorem dX11_nearestTold_14 : decode cX11_nearestTold 14 = .ok (.getfield 12, 3) := by decide +kernel
theorem dX11_nearestTold_17 : decode cX11_nearestTold 17 = .ok (.iload_n 1, 1) := by decide +kernel
theorem dX11_nearestTold_18 : decode cX11_nearestTold 18 = .ok (.invokevirtual 124, 3) := by decide +kernel
theorem dX11_nearestTold_21 : decode cX11_nearestTold 21 = .ok (.checkcast 108, 3) := by decide +kernel
theorem dX11_nearestTold_24 : decode cX11_nearestTold 24 = .ok (.astore 7, 2) := by decide +kernel
theorem dX11_nearestTold_26 : decode cX11_nearestTold 26 = .ok (.iconst 0, 1) := by decide +kernel
theorem dX11_nearestTold_27 : decode cX11_nearestTold 27 = .ok (.istore 8, 2) := by decide +kernel
theorem dX11_nearestTold_29 : decode cX11_nearestTold 29 = .ok (.iload 8, 2) := by decide +kernel
theorem dX11_nearestTold_31 : decode cX11_nearestTold 31 = .ok (.aload_n 0, 1) := by decide +kernel
theorem dX11_nearestTold_32 : decode cX11_nearestTold 32 = .ok (.getfield 12, 3) := by decide +kernel
theorem dX11_nearestTold_35 : decode cX11_nearestTold 35 = .ok (.invokevirtual 104, 3) := by decide +kernel
theorem dX11_nearestTold_38 : decode cX11_nearestTold 38 = .ok (.if_icmp .ge 89, 3) := by decide +kernel
theorem dX11_nearestTold_41 : decode cX11_nearestTold 41 = .ok (.iload 8, 2) := by decide +kernel
theorem dX11_nearestTold_43 : decode cX11_nearestTold 43 = .ok (.iload_n 1, 1) := by decide +kernel
theorem dX11_nearestTold_44 : decode cX11_nearestTold 44 = .ok (.if_icmp .eq 77, 3) := by decide +kernel
theorem dX11_nearestTold_47 : decode cX11_nearestTold 47 = .ok (.aload_n 0, 1) := by decide +kernel
theorem dX11_nearestTold_48 : decode cX11_nearestTold 48 = .ok (.getfield 30, 3) := by decide +kernel
theorem dX11_nearestTold_51 : decode cX11_nearestTold 51 = .ok (.iload 8, 2) := by decide +kernel
theorem dX11_nearestTold_53 : decode cX11_nearestTold 53 = .ok (.iload_n 2, 1) := by decide +kernel
theorem dX11_nearestTold_54 : decode cX11_nearestTold 54 = .ok (.iload_n 3, 1) := by decide +kernel
theorem dX11_nearestTold_55 : decode cX11_nearestTold 55 = .ok (.iload 4, 2) := by decide +kernel
theorem dX11_nearestTold_57 : decode cX11_nearestTold 57 = .ok (.invokevirtual 147, 3) := by decide +kernel
theorem dX11_nearestTold_60 : decode cX11_nearestTold 60 = .ok (.iconst (-1), 1) := by decide +kernel
theorem dX11_nearestTold_61 : decode cX11_nearestTold 61 = .ok (.if_icmp .ne 6, 3) := by decide +kernel
theorem dX11_nearestTold_64 : decode cX11_nearestTold 64 = .ok (.goto 57, 3) := by decide +kernel
theorem dX11_nearestTold_67 : decode cX11_nearestTold 67 = .ok (.aload_n 0, 1) := by decide +kernel
theorem dX11_nearestTold_68 : decode cX11_nearestTold 68 = .ok (.getfield 12, 3) := by decide +kernel
theorem dX11_nearestTold_71 : decode cX11_nearestTold 71 = .ok (.iload 8, 2) := by decide +kernel
theorem dX11_nearestTold_73 : decode cX11_nearestTold 73 = .ok (.invokevirtual 124, 3) := by decide +kernel
theorem dX11_nearestTold_76 : decode cX11_nearestTold 76 = .ok (.checkcast 108, 3) := by decide +kernel
theorem dX11_nearestTold_79 : decode cX11_nearestTold 79 = .ok (.astore 9, 2) := by decide +kernel
theorem dX11_nearestTold_81 : decode cX11_nearestTold 81 = .ok (.aload 7, 2) := by decide +kernel
theorem dX11_nearestTold_83 : decode cX11_nearestTold 83 = .ok (.getfield 182, 3) := by decide +kernel
theorem dX11_nearestTold_86 : decode cX11_nearestTold 86 = .ok (.aload 7, 2) := by decide +kernel
theorem dX11_nearestTold_88 : decode cX11_nearestTold 88 = .ok (.getfield 185, 3) := by decide +kernel
theorem dX11_nearestTold_91 : decode cX11_nearestTold 91 = .ok (.aload 9, 2) := by decide +kernel
theorem dX11_nearestTold_93 : decode cX11_nearestTold 93 = .ok (.getfield 182, 3) := by decide +kernel
theorem dX11_nearestTold_96 : decode cX11_nearestTold 96 = .ok (.aload 9, 2) := by decide +kernel
theorem dX11_nearestTold_98 : decode cX11_nearestTold 98 = .ok (.getfield 185, 3) := by decide +kernel
theorem dX11_nearestTold_101 : decode cX11_nearestTold 101 = .ok (.invokestatic 188, 3) := by decide +kernel
theorem dX11_nearestTold_104 : decode cX11_nearestTold 104 = .ok (.istore 10, 2) := by decide +kernel
theorem dX11_nearestTold_106 : decode cX11_nearestTold 106 = .ok (.iload 10, 2) := by decide +kernel
theorem dX11_nearestTold_108 : decode cX11_nearestTold 108 = .ok (.iload 6, 2) := by decide +kernel
theorem dX11_nearestTold_110 : decode cX11_nearestTold 110 = .ok (.if_icmp .ge 11, 3) := by decide +kernel
theorem dX11_nearestTold_113 : decode cX11_nearestTold 113 = .ok (.iload 10, 2) := by decide +kernel
theorem dX11_nearestTold_115 : decode cX11_nearestTold 115 = .ok (.istore 6, 2) := by decide +kernel
theorem dX11_nearestTold_117 : decode cX11_nearestTold 117 = .ok (.iload 8, 2) := by decide +kernel
theorem dX11_nearestTold_119 : decode cX11_nearestTold 119 = .ok (.istore 5, 2) := by decide +kernel
theorem dX11_nearestTold_121 : decode cX11_nearestTold 121 = .ok (.iinc 8 1, 3) := by decide +kernel
theorem dX11_nearestTold_124 : decode cX11_nearestTold 124 = .ok (.goto (-95), 3) := by decide +kernel
theorem dX11_nearestTold_127 : decode cX11_nearestTold 127 = .ok (.iload 5, 2) := by decide +kernel
theorem dX11_nearestTold_129 : decode cX11_nearestTold 129 = .ok (.ireturn, 1) := by decide +kernel
abbrev M_X11_nearestTold : MI := (RX11, cX11_nearestTold, 11, (some .int), ({ frames := 3, cells := 0, slots := 0, locals := 64 } : Room), 0, 0, false)
def f_X11_nearestTold_b121 (h : AH) (N : Nat) (K29 : Nat → Int32 → Int32 → Int32 → Int32 → Int32 → Int32 → Nat → Int32 → Option Int32) (x0 : Nat) (x1 : Int32) (x2 : Int32) (x3 : Int32) (x4 : Int32) (x5 : Int32) (x6 : Int32) (x7 : Nat) (x8 : Int32) : Option Int32 := K29 x0 x1 x2 x3 x4 x5 x6 x7 (x8 + 1)
def f_X11_nearestTold_b29_body (h : AH) (N : Nat) (K29 : Nat → Int32 → Int32 → Int32 → Int32 → Int32 → Int32 → Nat → Int32 → Option Int32) (x0 : Nat) (x1 : Int32) (x2 : Int32) (x3 : Int32) (x4 : Int32) (x5 : Int32) (x6 : Int32) (x7 : Nat) (x8 : Int32) : Option Int32 := (xgr h x0 12 0).bind fun v5 => (f_Jx4a65c_size_8abf5 h v5).bind fun v6 => (if v6 ≤ x8 then some x5 else (if x8 = x1 then f_X11_nearestTold_b121 h N K29 x0 x1 x2 x3 x4 x5 x6 x7 x8 else (xgr h x0 12 4).bind fun v9 => (f_X9_asKnown h N v9 x8 x2 x3 x4).bind fun v10 => (if v10 = (-1) then f_X11_nearestTold_b121 h N K29 x0 x1 x2 x3 x4 x5 x6 x7 x8 else (xgr h x0 12 0).bind fun v12 => (f_Jx4a65c_get_915e3 h v12 x8).bind fun v13 => (xcc h v13 4).bind fun _ => (xgi h x7 4 0).bind fun v14 => (xgi h x7 4 1).bind fun v15 => (xgi h v13 4 0).bind fun v16 => (xgi h v13 4 1).bind fun v17 => (f_X11_distance h v14 v15 v16 v17).bind fun v18 => (if x6 ≤ v18 then f_X11_nearestTold_b121 h N K29 x0 x1 x2 x3 x4 x5 x6 x7 x8 else f_X11_nearestTold_b121 h N K29 x0 x1 x2 x3 x4 x8 v18 x7 x8))))
def f_X11_nearestTold_b29 (h : AH) (N : Nat) : Nat → Nat → Int32 → Int32 → Int32 → Int32 → Int32 → Int32 → Nat → Int32 → Option Int32
  | 0, _, _, _, _, _, _, _, _, _ => none
  | n + 1, x0, x1, x2, x3, x4, x5, x6, x7, x8 => f_X11_nearestTold_b29_body h N  (f_X11_nearestTold_b29 h N  n) x0 x1 x2 x3 x4 x5 x6 x7 x8
def f_X11_nearestTold (h : AH) (N : Nat) (p0 : Nat) (p1 : Int32) (p2 : Int32) (p3 : Int32) (p4 : Int32) : Option Int32 := if kd h p0 = 12 + 1 then (xgr h p0 12 6).bind fun v1 => (xia h v1 0).bind fun v2 => (xgr h p0 12 0).bind fun v3 => (f_Jx4a65c_get_915e3 h v3 p1).bind fun v4 => (xcc h v4 4).bind fun _ => f_X11_nearestTold_b29 h N N p0 p1 p2 p3 p4 (-1) (v2 + 1) v4 0 else none
theorem g_X11_nearestTold {h : AH} {N : Nat} {p0 : Nat} {p1 : Int32} {p2 : Int32} {p3 : Int32} {p4 : Int32} {x : Int32} (e : f_X11_nearestTold h N p0 p1 p2 p3 p4 = some x) : kd h p0 = 12 + 1 := by
  unfold f_X11_nearestTold at e
  by_cases hk : kd h p0 = 12 + 1
  · exact hk
  · rw [if_neg hk] at e
    cases e
theorem km_X11_nearestTold : KM yX11_nearestTold M_X11_nearestTold 4 := ⟨in_tb 398 (by decide +kernel) rfl, in_tb 1 (by decide +kernel) rfl, by decide +kernel, rfl, rfl⟩
theorem hm_X11_nearestTold : M_X11_nearestTold.2.2.2.2.2.1 = 0 ∧ M_X11_nearestTold.2.2.2.2.2.2.1 = 0 := ⟨rfl, rfl⟩
section
variable {l : Launch} {g : GG}
set_option maxRecDepth 100000 in
set_option maxHeartbeats 4000000 in
theorem t_X11_nearestTold_b121 (h : AH) (N : Nat) (K29 : Nat → Int32 → Int32 → Int32 → Int32 → Int32 → Int32 → Nat → Int32 → Option Int32) (hK29 : ∀ (z0 : Nat) (z1 : Int32) (z2 : Int32) (z3 : Int32) (z4 : Int32) (z5 : Int32) (z6 : Int32) (z7 : Nat) (z8 : Int32), AO l g M_X11_nearestTold false h 29 [(0, .ref z0), (1, .int z1), (2, .int z2), (3, .int z3), (4, .int z4), (5, .int z5), (6, .int z6), (7, .ref z7), (8, .int z8)] [] h 0 0 (rPi h) (K29 z0 z1 z2 z3 z4 z5 z6 z7 z8)) (x0 : Nat) (x1 : Int32) (x2 : Int32) (x3 : Int32) (x4 : Int32) (x5 : Int32) (x6 : Int32) (x7 : Nat) (x8 : Int32) : AO l g M_X11_nearestTold false h 121 [(0, .ref x0), (1, .int x1), (2, .int x2), (3, .int x3), (4, .int x4), (5, .int x5), (6, .int x6), (7, .ref x7), (8, .int x8)] [] h 0 0 (rPi h) (f_X11_nearestTold_b121 h N K29 x0 x1 x2 x3 x4 x5 x6 x7 x8) := by
  unfold f_X11_nearestTold_b121
  refine a_iinc (q := 8) (v := (x8 + 1)) (lc2 := [(8, .int (x8 + 1)), (0, .ref x0), (1, .int x1), (2, .int x2), (3, .int x3), (4, .int x4), (5, .int x5), (6, .int x6), (7, .ref x7)]) dX11_nearestTold_121 rfl rfl (by decide) rfl ?_
  refine a_goto 29 dX11_nearestTold_124 (by decide) ?_
  refine a_pick (lc2 := [(0, .ref x0), (1, .int x1), (2, .int x2), (3, .int x3), (4, .int x4), (5, .int x5), (6, .int x6), (7, .ref x7), (8, .int (x8 + 1))]) [1, 2, 3, 4, 5, 6, 7, 8, 0] rfl ?_
  exact hK29 x0 x1 x2 x3 x4 x5 x6 x7 (x8 + 1)
set_option maxRecDepth 100000 in
set_option maxHeartbeats 4000000 in
theorem t_X11_nearestTold_b29_body (h : AH) (N : Nat) (K29 : Nat → Int32 → Int32 → Int32 → Int32 → Int32 → Int32 → Nat → Int32 → Option Int32) (hK29 : ∀ (z0 : Nat) (z1 : Int32) (z2 : Int32) (z3 : Int32) (z4 : Int32) (z5 : Int32) (z6 : Int32) (z7 : Nat) (z8 : Int32), AO l g M_X11_nearestTold false h 29 [(0, .ref z0), (1, .int z1), (2, .int z2), (3, .int z3), (4, .int z4), (5, .int z5), (6, .int z6), (7, .ref z7), (8, .int z8)] [] h 0 0 (rPi h) (K29 z0 z1 z2 z3 z4 z5 z6 z7 z8)) (x0 : Nat) (x1 : Int32) (x2 : Int32) (x3 : Int32) (x4 : Int32) (x5 : Int32) (x6 : Int32) (x7 : Nat) (x8 : Int32) : AO l g M_X11_nearestTold false h 29 [(0, .ref x0), (1, .int x1), (2, .int x2), (3, .int x3), (4, .int x4), (5, .int x5), (6, .int x6), (7, .ref x7), (8, .int x8)] [] h 0 0 (rPi h) (f_X11_nearestTold_b29_body h N K29 x0 x1 x2 x3 x4 x5 x6 x7 x8) := by
  unfold f_X11_nearestTold_b29_body
  refine a_iload dX11_nearestTold_29 8 rfl ?_
  refine a_aload_n dX11_nearestTold_31 rfl 0 rfl ?_
  refine a_getr kc12 0 dX11_nearestTold_32 (by decide) rfl w_fieldLink_RainCover_12 (fun v5 => ?_)
  refine a_cV_Pi (r := v5) (ci := 0) (as := []) (st := [.int x8]) dX11_nearestTold_35 (c_Jx4a65c_size_8abf5 l g h v5) rfl km_Jx4a65c_size_8abf5 (hm_Jx4a65c_size_8abf5) rfl (by decide) rfl (fun _ ee => g_Jx4a65c_size_8abf5 ee) w_methodLink_RainCover_104 w_instanceMethod_java_util_ArrayList_size___I w_selects_java_util_ArrayList_java_util_ArrayList_size___I_java_util_ArrayList_size___I ⟨⟨by decide, by decide⟩, ⟨by decide, by decide⟩⟩ (Nat.le_of_ble_eq_true rfl) (fun v6 => ?_)
  refine a_icmp_ge 127 dX11_nearestTold_38 (by decide) (fun c7 => ?_) (fun c7 => ?_)
  · refine a_iload dX11_nearestTold_127 5 rfl ?_
    exact a_iret dX11_nearestTold_129 rfl rfl (by decide) (by decide)
  · refine a_iload dX11_nearestTold_41 8 rfl ?_
    refine a_iload_n dX11_nearestTold_43 rfl 1 rfl ?_
    refine a_icmp_eq 121 dX11_nearestTold_44 (by decide) (fun c8 => ?_) (fun c8 => ?_)
    · exact t_X11_nearestTold_b121 h N K29 hK29 x0 x1 x2 x3 x4 x5 x6 x7 x8
    · refine a_aload_n dX11_nearestTold_47 rfl 0 rfl ?_
      refine a_getr kc12 4 dX11_nearestTold_48 (by decide) rfl w_fieldLink_RainCover_30 (fun v9 => ?_)
      refine a_iload dX11_nearestTold_51 8 rfl ?_
      refine a_iload_n dX11_nearestTold_53 rfl 2 rfl ?_
      refine a_iload_n dX11_nearestTold_54 rfl 3 rfl ?_
      refine a_iload dX11_nearestTold_55 4 rfl ?_
      refine a_cV_Pi (r := v9) (ci := 10) (as := [.int x8, .int x2, .int x3, .int x4]) (st := []) dX11_nearestTold_57 (c_X9_asKnown l g h N v9 x8 x2 x3 x4) rfl km_X9_asKnown (hm_X9_asKnown) rfl (by decide) rfl (fun _ ee => g_X9_asKnown ee) w_methodLink_RainCover_147 w_instanceMethod_RainCover_Tellings_asKnown__IIII_I w_selects_RainCover_Tellings_RainCover_Tellings_asKnown__IIII_I_RainCover_Tellings_asKnown__IIII_I ⟨⟨by decide, by decide⟩, ⟨by decide, by decide⟩⟩ (Nat.le_of_ble_eq_true rfl) (fun v10 => ?_)
      refine a_iconst (v := (-1)) dX11_nearestTold_60 (by decide) ?_
      refine a_icmp_ne 67 dX11_nearestTold_61 (by decide) (fun c11 => ?_) (fun c11 => ?_)
      · refine a_goto 121 dX11_nearestTold_64 (by decide) ?_
        exact t_X11_nearestTold_b121 h N K29 hK29 x0 x1 x2 x3 x4 x5 x6 x7 x8
      · refine a_aload_n dX11_nearestTold_67 rfl 0 rfl ?_
        refine a_getr kc12 0 dX11_nearestTold_68 (by decide) rfl w_fieldLink_RainCover_12 (fun v12 => ?_)
        refine a_iload dX11_nearestTold_71 8 rfl ?_
        refine a_cV_Pr (r := v12) (ci := 0) (as := [.int x8]) (st := []) dX11_nearestTold_73 (c_Jx4a65c_get_915e3 l g h v12 x8) rfl km_Jx4a65c_get_915e3 (hm_Jx4a65c_get_915e3) rfl (by decide) rfl (fun _ ee => g_Jx4a65c_get_915e3 ee) w_methodLink_RainCover_124 w_instanceMethod_java_util_ArrayList_get__I_Ljava_lang_Object_ w_selects_java_util_ArrayList_java_util_ArrayList_get__I_Ljava_lang_Object__java_util_ArrayList_get__I_Ljava_lang_Object_ ⟨⟨by decide, by decide⟩, ⟨by decide, by decide⟩⟩ (Nat.le_of_ble_eq_true rfl) (fun v13 => ?_)
        refine a_cast kc4 dX11_nearestTold_76 w_classLink_RainCover_108 ?_
        refine a_astore (lc2 := [(9, .ref v13), (0, .ref x0), (1, .int x1), (2, .int x2), (3, .int x3), (4, .int x4), (5, .int x5), (6, .int x6), (7, .ref x7), (8, .int x8)]) dX11_nearestTold_79 (by decide) rfl ?_
        refine a_aload dX11_nearestTold_81 8 rfl ?_
        refine a_geti kc4 0 dX11_nearestTold_83 (by decide) rfl w_fieldLink_RainCover_182 (fun v14 => ?_)
        refine a_aload dX11_nearestTold_86 8 rfl ?_
        refine a_geti kc4 1 dX11_nearestTold_88 (by decide) rfl w_fieldLink_RainCover_185 (fun v15 => ?_)
        refine a_aload dX11_nearestTold_91 0 rfl ?_
        refine a_geti kc4 0 dX11_nearestTold_93 (by decide) rfl w_fieldLink_RainCover_182 (fun v16 => ?_)
        refine a_aload dX11_nearestTold_96 0 rfl ?_
        refine a_geti kc4 1 dX11_nearestTold_98 (by decide) rfl w_fieldLink_RainCover_185 (fun v17 => ?_)
        refine a_cS_Pi (as := [.int v14, .int v15, .int v16, .int v17]) (st := []) dX11_nearestTold_101 (c_X11_distance l g h v14 v15 v16 v17) rfl km_X11_distance (hm_X11_distance) w_methodLink_RainCover_188 w_static_RainCover_distance__IIII_I ⟨⟨by decide, by decide⟩, ⟨by decide, by decide⟩⟩ (Nat.le_of_ble_eq_true rfl) (fun v18 => ?_)
        refine a_istore (lc2 := [(10, .int v18), (9, .ref v13), (0, .ref x0), (1, .int x1), (2, .int x2), (3, .int x3), (4, .int x4), (5, .int x5), (6, .int x6), (7, .ref x7), (8, .int x8)]) dX11_nearestTold_104 (by decide) rfl ?_
        refine a_iload dX11_nearestTold_106 0 rfl ?_
        refine a_iload dX11_nearestTold_108 8 rfl ?_
        refine a_icmp_ge 121 dX11_nearestTold_110 (by decide) (fun c19 => ?_) (fun c19 => ?_)
        · refine a_pick (lc2 := [(0, .ref x0), (1, .int x1), (2, .int x2), (3, .int x3), (4, .int x4), (5, .int x5), (6, .int x6), (7, .ref x7), (8, .int x8)]) [2, 3, 4, 5, 6, 7, 8, 9, 10] rfl ?_
          exact t_X11_nearestTold_b121 h N K29 hK29 x0 x1 x2 x3 x4 x5 x6 x7 x8
        · refine a_iload dX11_nearestTold_113 0 rfl ?_
          refine a_istore (lc2 := [(6, .int v18), (10, .int v18), (9, .ref v13), (0, .ref x0), (1, .int x1), (2, .int x2), (3, .int x3), (4, .int x4), (5, .int x5), (7, .ref x7), (8, .int x8)]) dX11_nearestTold_115 (by decide) rfl ?_
          refine a_iload dX11_nearestTold_117 10 rfl ?_
          refine a_istore (lc2 := [(5, .int x8), (6, .int v18), (10, .int v18), (9, .ref v13), (0, .ref x0), (1, .int x1), (2, .int x2), (3, .int x3), (4, .int x4), (7, .ref x7), (8, .int x8)]) dX11_nearestTold_119 (by decide) rfl ?_
          refine a_pick (lc2 := [(0, .ref x0), (1, .int x1), (2, .int x2), (3, .int x3), (4, .int x4), (5, .int x8), (6, .int v18), (7, .ref x7), (8, .int x8)]) [4, 5, 6, 7, 8, 0, 1, 9, 10] rfl ?_
          exact t_X11_nearestTold_b121 h N K29 hK29 x0 x1 x2 x3 x4 x8 v18 x7 x8
set_option maxRecDepth 100000 in
set_option maxHeartbeats 4000000 in
theorem t_X11_nearestTold_b29 (h : AH) (N : Nat) : ∀ (n : Nat) (x0 : Nat) (x1 : Int32) (x2 : Int32) (x3 : Int32) (x4 : Int32) (x5 : Int32) (x6 : Int32) (x7 : Nat) (x8 : Int32) , AO l g M_X11_nearestTold false h 29 [(0, .ref x0), (1, .int x1), (2, .int x2), (3, .int x3), (4, .int x4), (5, .int x5), (6, .int x6), (7, .ref x7), (8, .int x8)] [] h 0 0 (rPi h) (f_X11_nearestTold_b29 h N  n x0 x1 x2 x3 x4 x5 x6 x7 x8) := by
  intro n
  induction n with
  | zero => intro x0 x1 x2 x3 x4 x5 x6 x7 x8; exact a_eq rfl a_none
  | succ n ih => intro x0 x1 x2 x3 x4 x5 x6 x7 x8; exact a_eq rfl (t_X11_nearestTold_b29_body h N  (f_X11_nearestTold_b29 h N  n) ih x0 x1 x2 x3 x4 x5 x6 x7 x8)
end
set_option maxRecDepth 100000 in
set_option maxHeartbeats 4000000 in
theorem c_X11_nearestTold (l : Launch) (g : GG) (h : AH) (N : Nat) (p0 : Nat) (p1 : Int32) (p2 : Int32) (p3 : Int32) (p4 : Int32) : CN l g yX11_nearestTold M_X11_nearestTold false [.ref p0, .int p1, .int p2, .int p3, .int p4] h ((rPi h)) (f_X11_nearestTold h N p0 p1 p2 p3 p4) := by
  refine CN.of (by decide) rfl (fun hh => by first | rfl | cases hh) (Nat.le_of_ble_eq_true rfl) ?_
  unfold f_X11_nearestTold
  refine a_gd (fun hkd => ?_)
  refine a_iconst (v := (-1)) dX11_nearestTold_0 (by decide) ?_
  refine a_istore (lc2 := [(5, .int (-1)), (0, .ref p0), (1, .int p1), (2, .int p2), (3, .int p3), (4, .int p4)]) dX11_nearestTold_1 (by decide) rfl ?_
  refine a_aload_n dX11_nearestTold_3 rfl 1 rfl ?_
  refine a_getr kc12 6 dX11_nearestTold_4 (by decide) rfl w_fieldLink_RainCover_41 (fun v1 => ?_)
  refine a_iconst (v := 0) dX11_nearestTold_7 (by decide) ?_
  refine a_iald dX11_nearestTold_8 (fun v2 => ?_)
  refine a_iconst (v := 1) dX11_nearestTold_9 (by decide) ?_
  refine a_iadd dX11_nearestTold_10 ?_
  refine a_istore (lc2 := [(6, .int (v2 + 1)), (5, .int (-1)), (0, .ref p0), (1, .int p1), (2, .int p2), (3, .int p3), (4, .int p4)]) dX11_nearestTold_11 (by decide) rfl ?_
  refine a_aload_n dX11_nearestTold_13 rfl 2 rfl ?_
  refine a_getr kc12 0 dX11_nearestTold_14 (by decide) rfl w_fieldLink_RainCover_12 (fun v3 => ?_)
  refine a_iload_n dX11_nearestTold_17 rfl 3 rfl ?_
  refine a_cV_Pr (r := v3) (ci := 0) (as := [.int p1]) (st := []) dX11_nearestTold_18 (c_Jx4a65c_get_915e3 l g h v3 p1) rfl km_Jx4a65c_get_915e3 (hm_Jx4a65c_get_915e3) rfl (by decide) rfl (fun _ ee => g_Jx4a65c_get_915e3 ee) w_methodLink_RainCover_124 w_instanceMethod_java_util_ArrayList_get__I_Ljava_lang_Object_ w_selects_java_util_ArrayList_java_util_ArrayList_get__I_Ljava_lang_Object__java_util_ArrayList_get__I_Ljava_lang_Object_ ⟨⟨by decide, by decide⟩, ⟨by decide, by decide⟩⟩ (Nat.le_of_ble_eq_true rfl) (fun v4 => ?_)
  refine a_cast kc4 dX11_nearestTold_21 w_classLink_RainCover_108 ?_
  refine a_astore (lc2 := [(7, .ref v4), (6, .int (v2 + 1)), (5, .int (-1)), (0, .ref p0), (1, .int p1), (2, .int p2), (3, .int p3), (4, .int p4)]) dX11_nearestTold_24 (by decide) rfl ?_
  refine a_iconst (v := 0) dX11_nearestTold_26 (by decide) ?_
  refine a_istore (lc2 := [(8, .int 0), (7, .ref v4), (6, .int (v2 + 1)), (5, .int (-1)), (0, .ref p0), (1, .int p1), (2, .int p2), (3, .int p3), (4, .int p4)]) dX11_nearestTold_27 (by decide) rfl ?_
  refine a_pick (lc2 := [(0, .ref p0), (1, .int p1), (2, .int p2), (3, .int p3), (4, .int p4), (5, .int (-1)), (6, .int (v2 + 1)), (7, .ref v4), (8, .int 0)]) [4, 5, 6, 7, 8, 3, 2, 1, 0] rfl ?_
  exact t_X11_nearestTold_b29 h N N p0 p1 p2 p3 p4 (-1) (v2 + 1) v4 0
theorem dX11_usualRain_0 : decode cX11_usualRain 0 = .ok (.iconst 0, 1) := by decide +kernel
theorem dX11_usualRain_1 : decode cX11_usualRain 1 = .ok (.istore 4, 2) := by decide +kernel
theorem dX11_usualRain_3 : decode cX11_usualRain 3 = .ok (.iconst 0, 1) := by decide +kernel
theorem dX11_usualRain_4 : decode cX11_usualRain 4 = .ok (.istore 5, 2) := by decide +kernel
theorem dX11_usualRain_6 : decode cX11_usualRain 6 = .ok (.iconst 0, 1) := by decide +kernel
theorem dX11_usualRain_7 : decode cX11_usualRain 7 = .ok (.istore 6, 2) := by decide +kernel
theorem dX11_usualRain_9 : decode cX11_usualRain 9 = .ok (.iload 6, 2) := by decide +kernel
theorem dX11_usualRain_11 : decode cX11_usualRain 11 = .ok (.bipush 16, 2) := by decide +kernel
theorem dX11_usualRain_13 : decode cX11_usualRain 13 = .ok (.if_icmp .ge 42, 3) := by decide +kernel
theorem dX11_usualRain_16 : decode cX11_usualRain 16 = .ok (.aload_n 0, 1) := by decide +kernel
theorem dX11_usualRain_17 : decode cX11_usualRain 17 = .ok (.getfield 30, 3) := by decide +kernel
theorem dX11_usualRain_20 : decode cX11_usualRain 20 = .ok (.iload_n 1, 1) := by decide +kernel
theorem dX11_usualRain_21 : decode cX11_usualRain 21 = .ok (.iload 6, 2) := by decide +kernel
theorem dX11_usualRain_23 : decode cX11_usualRain 23 = .ok (.iload_n 2, 1) := by decide +kernel
theorem dX11_usualRain_24 : decode cX11_usualRain 24 = .ok (.iload_n 3, 1) := by decide +kernel
theorem dX11_usualRain_25 : decode cX11_usualRain 25 = .ok (.invokevirtual 147, 3) := by decide +kernel
theorem dX11_usualRain_28 : decode cX11_usualRain 28 = .ok (.istore 7, 2) := by decide +kernel
theorem dX11_usualRain_30 : decode cX11_usualRain 30 = .ok (.iload 7, 2) := by decide +kernel
theorem dX11_usualRain_32 : decode cX11_usualRain 32 = .ok (.iconst (-1), 1) := by decide +kernel
theorem dX11_usualRain_33 : decode cX11_usualRain 33 = .ok (.if_icmp .ne 6, 3) := by decide +kernel
theorem dX11_usualRain_36 : decode cX11_usualRain 36 = .ok (.goto 13, 3) := by decide +kernel
theorem dX11_usualRain_39 : decode cX11_usualRain 39 = .ok (.iload 4, 2) := by decide +kernel
theorem dX11_usualRain_41 : decode cX11_usualRain 41 = .ok (.iload 7, 2) := by decide +kernel
theorem dX11_usualRain_43 : decode cX11_usualRain 43 = .ok (.iadd, 1) := by decide +kernel
theorem dX11_usualRain_44 : decode cX11_usualRain 44 = .ok (.istore 4, 2) := by decide +kernel
theorem dX11_usualRain_46 : decode cX11_usualRain 46 = .ok (.iinc 5 1, 3) := by decide +kernel
theorem dX11_usualRain_49 : decode cX11_usualRain 49 = .ok (.iinc 6 1, 3) := by decide +kernel
theorem dX11_usualRain_52 : decode cX11_usualRain 52 = .ok (.goto (-43), 3) := by decide +kernel
theorem dX11_usualRain_55 : decode cX11_usualRain 55 = .ok (.iload 5, 2) := by decide +kernel
theorem dX11_usualRain_57 : decode cX11_usualRain 57 = .ok (.ifCond .ne 7, 3) := by decide +kernel
theorem dX11_usualRain_60 : decode cX11_usualRain 60 = .ok (.iconst 0, 1) := by decide +kernel
theorem dX11_usualRain_61 : decode cX11_usualRain 61 = .ok (.goto 8, 3) := by decide +kernel
theorem dX11_usualRain_64 : decode cX11_usualRain 64 = .ok (.iload 4, 2) := by decide +kernel
theorem dX11_usualRain_66 : decode cX11_usualRain 66 = .ok (.iload 5, 2) := by decide +kernel
theorem dX11_usualRain_68 : decode cX11_usualRain 68 = .ok (.idiv, 1) := by decide +kernel
theorem dX11_usualRain_69 : decode cX11_usualRain 69 = .ok (.ireturn, 1) := by decide +kernel
abbrev M_X11_usualRain : MI := (RX11, cX11_usualRain, 8, (some .int), ({ frames := 1, cells := 0, slots := 0, locals := 26 } : Room), 0, 0, false)
def f_X11_usualRain_b49 (h : AH) (N : Nat) (K9 : Nat → Int32 → Int32 → Int32 → Int32 → Int32 → Int32 → Option Int32) (x0 : Nat) (x1 : Int32) (x2 : Int32) (x3 : Int32) (x4 : Int32) (x5 : Int32) (x6 : Int32) : Option Int32 := K9 x0 x1 x2 x3 x4 x5 (x6 + 1)
def f_X11_usualRain_b9_body (h : AH) (N : Nat) (K9 : Nat → Int32 → Int32 → Int32 → Int32 → Int32 → Int32 → Option Int32) (x0 : Nat) (x1 : Int32) (x2 : Int32) (x3 : Int32) (x4 : Int32) (x5 : Int32) (x6 : Int32) : Option Int32 := (if 16 ≤ x6 then (if x5 = 0 then some 0 else (if x5 = 0 then none else some (x4 / x5))) else (xgr h x0 12 4).bind fun v4 => (f_X9_asKnown h N v4 x1 x6 x2 x3).bind fun v5 => (if v5 = (-1) then f_X11_usualRain_b49 h N K9 x0 x1 x2 x3 x4 x5 x6 else f_X11_usualRain_b49 h N K9 x0 x1 x2 x3 (x4 + v5) (x5 + 1) x6))
def f_X11_usualRain_b9 (h : AH) (N : Nat) : Nat → Nat → Int32 → Int32 → Int32 → Int32 → Int32 → Int32 → Option Int32
  | 0, _, _, _, _, _, _, _ => none
  | n + 1, x0, x1, x2, x3, x4, x5, x6 => f_X11_usualRain_b9_body h N  (f_X11_usualRain_b9 h N  n) x0 x1 x2 x3 x4 x5 x6
def f_X11_usualRain (h : AH) (N : Nat) (p0 : Nat) (p1 : Int32) (p2 : Int32) (p3 : Int32) : Option Int32 := if kd h p0 = 12 + 1 then f_X11_usualRain_b9 h N N p0 p1 p2 p3 0 0 0 else none
theorem g_X11_usualRain {h : AH} {N : Nat} {p0 : Nat} {p1 : Int32} {p2 : Int32} {p3 : Int32} {x : Int32} (e : f_X11_usualRain h N p0 p1 p2 p3 = some x) : kd h p0 = 12 + 1 := by
  unfold f_X11_usualRain at e
  by_cases hk : kd h p0 = 12 + 1
  · exact hk
  · rw [if_neg hk] at e
    cases e
theorem km_X11_usualRain : KM yX11_usualRain M_X11_usualRain 3 := ⟨in_tb 405 (by decide +kernel) rfl, in_tb 1 (by decide +kernel) rfl, by decide +kernel, rfl, rfl⟩
theorem hm_X11_usualRain : M_X11_usualRain.2.2.2.2.2.1 = 0 ∧ M_X11_usualRain.2.2.2.2.2.2.1 = 0 := ⟨rfl, rfl⟩
section
variable {l : Launch} {g : GG}
set_option maxRecDepth 100000 in
set_option maxHeartbeats 4000000 in
theorem t_X11_usualRain_b49 (h : AH) (N : Nat) (K9 : Nat → Int32 → Int32 → Int32 → Int32 → Int32 → Int32 → Option Int32) (hK9 : ∀ (z0 : Nat) (z1 : Int32) (z2 : Int32) (z3 : Int32) (z4 : Int32) (z5 : Int32) (z6 : Int32), AO l g M_X11_usualRain false h 9 [(0, .ref z0), (1, .int z1), (2, .int z2), (3, .int z3), (4, .int z4), (5, .int z5), (6, .int z6)] [] h 0 0 (rPi h) (K9 z0 z1 z2 z3 z4 z5 z6)) (x0 : Nat) (x1 : Int32) (x2 : Int32) (x3 : Int32) (x4 : Int32) (x5 : Int32) (x6 : Int32) : AO l g M_X11_usualRain false h 49 [(0, .ref x0), (1, .int x1), (2, .int x2), (3, .int x3), (4, .int x4), (5, .int x5), (6, .int x6)] [] h 0 0 (rPi h) (f_X11_usualRain_b49 h N K9 x0 x1 x2 x3 x4 x5 x6) := by
  unfold f_X11_usualRain_b49
  refine a_iinc (q := 6) (v := (x6 + 1)) (lc2 := [(6, .int (x6 + 1)), (0, .ref x0), (1, .int x1), (2, .int x2), (3, .int x3), (4, .int x4), (5, .int x5)]) dX11_usualRain_49 rfl rfl (by decide) rfl ?_
  refine a_goto 9 dX11_usualRain_52 (by decide) ?_
  refine a_pick (lc2 := [(0, .ref x0), (1, .int x1), (2, .int x2), (3, .int x3), (4, .int x4), (5, .int x5), (6, .int (x6 + 1))]) [1, 2, 3, 4, 5, 6, 0] rfl ?_
  exact hK9 x0 x1 x2 x3 x4 x5 (x6 + 1)
set_option maxRecDepth 100000 in
set_option maxHeartbeats 4000000 in
theorem t_X11_usualRain_b9_body (h : AH) (N : Nat) (K9 : Nat → Int32 → Int32 → Int32 → Int32 → Int32 → Int32 → Option Int32) (hK9 : ∀ (z0 : Nat) (z1 : Int32) (z2 : Int32) (z3 : Int32) (z4 : Int32) (z5 : Int32) (z6 : Int32), AO l g M_X11_usualRain false h 9 [(0, .ref z0), (1, .int z1), (2, .int z2), (3, .int z3), (4, .int z4), (5, .int z5), (6, .int z6)] [] h 0 0 (rPi h) (K9 z0 z1 z2 z3 z4 z5 z6)) (x0 : Nat) (x1 : Int32) (x2 : Int32) (x3 : Int32) (x4 : Int32) (x5 : Int32) (x6 : Int32) : AO l g M_X11_usualRain false h 9 [(0, .ref x0), (1, .int x1), (2, .int x2), (3, .int x3), (4, .int x4), (5, .int x5), (6, .int x6)] [] h 0 0 (rPi h) (f_X11_usualRain_b9_body h N K9 x0 x1 x2 x3 x4 x5 x6) := by
  unfold f_X11_usualRain_b9_body
  refine a_iload dX11_usualRain_9 6 rfl ?_
  refine a_bipush (v := 16) dX11_usualRain_11 (by decide) ?_
  refine a_icmp_ge 55 dX11_usualRain_13 (by decide) (fun c1 => ?_) (fun c1 => ?_)
  · refine a_iload dX11_usualRain_55 5 rfl ?_
    refine a_if_ne 64 dX11_usualRain_57 (by decide) (fun c2 => ?_) (fun c2 => ?_)
    · refine a_iconst (v := 0) dX11_usualRain_60 (by decide) ?_
      refine a_goto 69 dX11_usualRain_61 (by decide) ?_
      exact a_iret dX11_usualRain_69 rfl rfl (by decide) (by decide)
    · refine a_iload dX11_usualRain_64 4 rfl ?_
      refine a_iload dX11_usualRain_66 5 rfl ?_
      refine a_idiv dX11_usualRain_68 (fun c3 => ?_)
      exact a_iret dX11_usualRain_69 rfl rfl (by decide) (by decide)
  · refine a_aload_n dX11_usualRain_16 rfl 0 rfl ?_
    refine a_getr kc12 4 dX11_usualRain_17 (by decide) rfl w_fieldLink_RainCover_30 (fun v4 => ?_)
    refine a_iload_n dX11_usualRain_20 rfl 1 rfl ?_
    refine a_iload dX11_usualRain_21 6 rfl ?_
    refine a_iload_n dX11_usualRain_23 rfl 2 rfl ?_
    refine a_iload_n dX11_usualRain_24 rfl 3 rfl ?_
    refine a_cV_Pi (r := v4) (ci := 10) (as := [.int x1, .int x6, .int x2, .int x3]) (st := []) dX11_usualRain_25 (c_X9_asKnown l g h N v4 x1 x6 x2 x3) rfl km_X9_asKnown (hm_X9_asKnown) rfl (by decide) rfl (fun _ ee => g_X9_asKnown ee) w_methodLink_RainCover_147 w_instanceMethod_RainCover_Tellings_asKnown__IIII_I w_selects_RainCover_Tellings_RainCover_Tellings_asKnown__IIII_I_RainCover_Tellings_asKnown__IIII_I ⟨⟨by decide, by decide⟩, ⟨by decide, by decide⟩⟩ (Nat.le_of_ble_eq_true rfl) (fun v5 => ?_)
    refine a_istore (lc2 := [(7, .int v5), (0, .ref x0), (1, .int x1), (2, .int x2), (3, .int x3), (4, .int x4), (5, .int x5), (6, .int x6)]) dX11_usualRain_28 (by decide) rfl ?_
    refine a_iload dX11_usualRain_30 0 rfl ?_
    refine a_iconst (v := (-1)) dX11_usualRain_32 (by decide) ?_
    refine a_icmp_ne 39 dX11_usualRain_33 (by decide) (fun c6 => ?_) (fun c6 => ?_)
    · refine a_goto 49 dX11_usualRain_36 (by decide) ?_
      refine a_pick (lc2 := [(0, .ref x0), (1, .int x1), (2, .int x2), (3, .int x3), (4, .int x4), (5, .int x5), (6, .int x6)]) [1, 2, 3, 4, 5, 6, 7] rfl ?_
      exact t_X11_usualRain_b49 h N K9 hK9 x0 x1 x2 x3 x4 x5 x6
    · refine a_iload dX11_usualRain_39 5 rfl ?_
      refine a_iload dX11_usualRain_41 0 rfl ?_
      refine a_iadd dX11_usualRain_43 ?_
      refine a_istore (lc2 := [(4, .int (x4 + v5)), (7, .int v5), (0, .ref x0), (1, .int x1), (2, .int x2), (3, .int x3), (5, .int x5), (6, .int x6)]) dX11_usualRain_44 (by decide) rfl ?_
      refine a_iinc (q := 6) (v := (x5 + 1)) (lc2 := [(5, .int (x5 + 1)), (4, .int (x4 + v5)), (7, .int v5), (0, .ref x0), (1, .int x1), (2, .int x2), (3, .int x3), (6, .int x6)]) dX11_usualRain_46 rfl rfl (by decide) rfl ?_
      refine a_pick (lc2 := [(0, .ref x0), (1, .int x1), (2, .int x2), (3, .int x3), (4, .int (x4 + v5)), (5, .int (x5 + 1)), (6, .int x6)]) [3, 4, 5, 6, 1, 0, 7] rfl ?_
      exact t_X11_usualRain_b49 h N K9 hK9 x0 x1 x2 x3 (x4 + v5) (x5 + 1) x6
set_option maxRecDepth 100000 in
set_option maxHeartbeats 4000000 in
theorem t_X11_usualRain_b9 (h : AH) (N : Nat) : ∀ (n : Nat) (x0 : Nat) (x1 : Int32) (x2 : Int32) (x3 : Int32) (x4 : Int32) (x5 : Int32) (x6 : Int32) , AO l g M_X11_usualRain false h 9 [(0, .ref x0), (1, .int x1), (2, .int x2), (3, .int x3), (4, .int x4), (5, .int x5), (6, .int x6)] [] h 0 0 (rPi h) (f_X11_usualRain_b9 h N  n x0 x1 x2 x3 x4 x5 x6) := by
  intro n
  induction n with
  | zero => intro x0 x1 x2 x3 x4 x5 x6; exact a_eq rfl a_none
  | succ n ih => intro x0 x1 x2 x3 x4 x5 x6; exact a_eq rfl (t_X11_usualRain_b9_body h N  (f_X11_usualRain_b9 h N  n) ih x0 x1 x2 x3 x4 x5 x6)
end
set_option maxRecDepth 100000 in
set_option maxHeartbeats 4000000 in
theorem c_X11_usualRain (l : Launch) (g : GG) (h : AH) (N : Nat) (p0 : Nat) (p1 : Int32) (p2 : Int32) (p3 : Int32) : CN l g yX11_usualRain M_X11_usualRain false [.ref p0, .int p1, .int p2, .int p3] h ((rPi h)) (f_X11_usualRain h N p0 p1 p2 p3) := by
  refine CN.of (by decide) rfl (fun hh => by first | rfl | cases hh) (Nat.le_of_ble_eq_true rfl) ?_
  unfold f_X11_usualRain
  refine a_gd (fun hkd => ?_)
  refine a_iconst (v := 0) dX11_usualRain_0 (by decide) ?_
  refine a_istore (lc2 := [(4, .int 0), (0, .ref p0), (1, .int p1), (2, .int p2), (3, .int p3)]) dX11_usualRain_1 (by decide) rfl ?_
  refine a_iconst (v := 0) dX11_usualRain_3 (by decide) ?_
  refine a_istore (lc2 := [(5, .int 0), (4, .int 0), (0, .ref p0), (1, .int p1), (2, .int p2), (3, .int p3)]) dX11_usualRain_4 (by decide) rfl ?_
  refine a_iconst (v := 0) dX11_usualRain_6 (by decide) ?_
  refine a_istore (lc2 := [(6, .int 0), (5, .int 0), (4, .int 0), (0, .ref p0), (1, .int p1), (2, .int p2), (3, .int p3)]) dX11_usualRain_7 (by decide) rfl ?_
  refine a_pick (lc2 := [(0, .ref p0), (1, .int p1), (2, .int p2), (3, .int p3), (4, .int 0), (5, .int 0), (6, .int 0)]) [3, 4, 5, 6, 2, 1, 0] rfl ?_
  exact t_X11_usualRain_b9 h N N p0 p1 p2 p3 0 0 0
theorem dX11_fill_0 : decode cX11_fill 0 = .ok (.aload_n 0, 1) := by decide +kernel
theorem dX11_fill_1 : decode cX11_fill 1 = .ok (.getfield 30, 3) := by decide +kernel
theorem dX11_fill_4 : decode cX11_fill 4 = .ok (.iload_n 1, 1) := by decide +kernel
theorem dX11_fill_5 : decode cX11_fill 5 = .ok (.iload_n 2, 1) := by decide +kernel
theorem dX11_fill_6 : decode cX11_fill 6 = .ok (.iload_n 3, 1) := by decide +kernel
theorem dX11_fill_7 : decode cX11_fill 7 = .ok (.iload 4, 2) := by decide +kernel
theorem dX11_fill_9 : decode cX11_fill 9 = .ok (.invokevirtual 147, 3) := by decide +kernel
theorem dX11_fill_12 : decode cX11_fill 12 = .ok (.istore 5, 2) := by decide +kernel
theorem dX11_fill_14 : decode cX11_fill 14 = .ok (.iload 5, 2) := by decide +kernel
theorem dX11_fill_16 : decode cX11_fill 16 = .ok (.iconst (-1), 1) := by decide +kernel
theorem dX11_fill_17 : decode cX11_fill 17 = .ok (.if_icmp .eq 6, 3) := by decide +kernel
theorem dX11_fill_20 : decode cX11_fill 20 = .ok (.iload 5, 2) := by decide +kernel
theorem dX11_fill_22 : decode cX11_fill 22 = .ok (.ireturn, 1) := by decide +kernel
theorem dX11_fill_23 : decode cX11_fill 23 = .ok (.aload_n 0, 1) := by decide +kernel
theorem dX11_fill_24 : decode cX11_fill 24 = .ok (.iload_n 1, 1) := by decide +kernel
theorem dX11_fill_25 : decode cX11_fill 25 = .ok (.iload_n 2, 1) := by decide +kernel
theorem dX11_fill_26 : decode cX11_fill 26 = .ok (.iload_n 3, 1) := by decide +kernel
theorem dX11_fill_27 : decode cX11_fill 27 = .ok (.iload 4, 2) := by decide +kernel
theorem dX11_fill_29 : decode cX11_fill 29 = .ok (.invokevirtual 191, 3) := by decide +kernel
theorem dX11_fill_32 : decode cX11_fill 32 = .ok (.istore 6, 2) := by decide +kernel
theorem dX11_fill_34 : decode cX11_fill 34 = .ok (.iload 6, 2) := by decide +kernel
theorem dX11_fill_36 : decode cX11_fill 36 = .ok (.iconst (-1), 1) := by decide +kernel
theorem dX11_fill_37 : decode cX11_fill 37 = .ok (.if_icmp .eq 17, 3) := by decide +kernel
theorem dX11_fill_40 : decode cX11_fill 40 = .ok (.aload_n 0, 1) := by decide +kernel
theorem dX11_fill_41 : decode cX11_fill 41 = .ok (.getfield 30, 3) := by decide +kernel
theorem dX11_fill_44 : decode cX11_fill 44 = .ok (.iload 6, 2) := by decide +kernel
theorem dX11_fill_46 : decode cX11_fill 46 = .ok (.iload_n 2, 1) := by decide +kernel
theorem dX11_fill_47 : decode cX11_fill 47 = .ok (.iload_n 3, 1) := by decide +kernel
theorem dX11_fill_48 : decode cX11_fill 48 = .ok (.iload 4, 2) := by decide +kernel
theorem dX11_fill_50 : decode cX11_fill 50 = .ok (.invokevirtual 147, 3) := by decide +kernel
theorem dX11_fill_53 : decode cX11_fill 53 = .ok (.ireturn, 1) := by decide +kernel
theorem dX11_fill_54 : decode cX11_fill 54 = .ok (.aload_n 0, 1) := by decide +kernel
theorem dX11_fill_55 : decode cX11_fill 55 = .ok (.iload_n 1, 1) := by decide +kernel
theorem dX11_fill_56 : decode cX11_fill 56 = .ok (.iload_n 3, 1) := by decide +kernel
theorem dX11_fill_57 : decode cX11_fill 57 = .ok (.iload 4, 2) := by decide +kernel
theorem dX11_fill_59 : decode cX11_fill 59 = .ok (.invokevirtual 194, 3) := by decide +kernel
theorem dX11_fill_62 : decode cX11_fill 62 = .ok (.ireturn, 1) := by decide +kernel
abbrev M_X11_fill : MI := (RX11, cX11_fill, 7, (some .int), ({ frames := 4, cells := 0, slots := 0, locals := 94 } : Room), 0, 0, false)
def f_X11_fill (h : AH) (N : Nat) (p0 : Nat) (p1 : Int32) (p2 : Int32) (p3 : Int32) (p4 : Int32) : Option Int32 := if kd h p0 = 12 + 1 then (xgr h p0 12 4).bind fun v1 => (f_X9_asKnown h N v1 p1 p2 p3 p4).bind fun v2 => (if v2 = (-1) then (f_X11_nearestTold h N p0 p1 p2 p3 p4).bind fun v4 => (if v4 = (-1) then (f_X11_usualRain h N p0 p1 p3 p4).bind fun v6 => some v6 else (xgr h p0 12 4).bind fun v7 => (f_X9_asKnown h N v7 v4 p2 p3 p4).bind fun v8 => some v8) else some v2) else none
theorem g_X11_fill {h : AH} {N : Nat} {p0 : Nat} {p1 : Int32} {p2 : Int32} {p3 : Int32} {p4 : Int32} {x : Int32} (e : f_X11_fill h N p0 p1 p2 p3 p4 = some x) : kd h p0 = 12 + 1 := by
  unfold f_X11_fill at e
  by_cases hk : kd h p0 = 12 + 1
  · exact hk
  · rw [if_neg hk] at e
    cases e
theorem km_X11_fill : KM yX11_fill M_X11_fill 4 := ⟨in_tb 394 (by decide +kernel) rfl, in_tb 1 (by decide +kernel) rfl, by decide +kernel, rfl, rfl⟩
theorem hm_X11_fill : M_X11_fill.2.2.2.2.2.1 = 0 ∧ M_X11_fill.2.2.2.2.2.2.1 = 0 := ⟨rfl, rfl⟩
section
variable {l : Launch} {g : GG}
end
set_option maxRecDepth 100000 in
set_option maxHeartbeats 4000000 in
theorem c_X11_fill (l : Launch) (g : GG) (h : AH) (N : Nat) (p0 : Nat) (p1 : Int32) (p2 : Int32) (p3 : Int32) (p4 : Int32) : CN l g yX11_fill M_X11_fill false [.ref p0, .int p1, .int p2, .int p3, .int p4] h ((rPi h)) (f_X11_fill h N p0 p1 p2 p3 p4) := by
  refine CN.of (by decide) rfl (fun hh => by first | rfl | cases hh) (Nat.le_of_ble_eq_true rfl) ?_
  unfold f_X11_fill
  refine a_gd (fun hkd => ?_)
  refine a_aload_n dX11_fill_0 rfl 0 rfl ?_
  refine a_getr kc12 4 dX11_fill_1 (by decide) rfl w_fieldLink_RainCover_30 (fun v1 => ?_)
  refine a_iload_n dX11_fill_4 rfl 1 rfl ?_
  refine a_iload_n dX11_fill_5 rfl 2 rfl ?_
  refine a_iload_n dX11_fill_6 rfl 3 rfl ?_
  refine a_iload dX11_fill_7 4 rfl ?_
  refine a_cV_Pi (r := v1) (ci := 10) (as := [.int p1, .int p2, .int p3, .int p4]) (st := []) dX11_fill_9 (c_X9_asKnown l g h N v1 p1 p2 p3 p4) rfl km_X9_asKnown (hm_X9_asKnown) rfl (by decide) rfl (fun _ ee => g_X9_asKnown ee) w_methodLink_RainCover_147 w_instanceMethod_RainCover_Tellings_asKnown__IIII_I w_selects_RainCover_Tellings_RainCover_Tellings_asKnown__IIII_I_RainCover_Tellings_asKnown__IIII_I ⟨⟨by decide, by decide⟩, ⟨by decide, by decide⟩⟩ (Nat.le_of_ble_eq_true rfl) (fun v2 => ?_)
  refine a_istore (lc2 := [(5, .int v2), (0, .ref p0), (1, .int p1), (2, .int p2), (3, .int p3), (4, .int p4)]) dX11_fill_12 (by decide) rfl ?_
  refine a_iload dX11_fill_14 0 rfl ?_
  refine a_iconst (v := (-1)) dX11_fill_16 (by decide) ?_
  refine a_icmp_eq 23 dX11_fill_17 (by decide) (fun c3 => ?_) (fun c3 => ?_)
  · refine a_aload_n dX11_fill_23 rfl 1 rfl ?_
    refine a_iload_n dX11_fill_24 rfl 2 rfl ?_
    refine a_iload_n dX11_fill_25 rfl 3 rfl ?_
    refine a_iload_n dX11_fill_26 rfl 4 rfl ?_
    refine a_iload dX11_fill_27 5 rfl ?_
    refine a_cV_Pi (r := p0) (ci := 12) (as := [.int p1, .int p2, .int p3, .int p4]) (st := []) dX11_fill_29 (c_X11_nearestTold l g h N p0 p1 p2 p3 p4) rfl km_X11_nearestTold (hm_X11_nearestTold) rfl (by decide) rfl (fun _ ee => g_X11_nearestTold ee) w_methodLink_RainCover_191 w_instanceMethod_RainCover_nearestTold__IIII_I w_selects_RainCover_RainCover_nearestTold__IIII_I_RainCover_nearestTold__IIII_I ⟨⟨by decide, by decide⟩, ⟨by decide, by decide⟩⟩ (Nat.le_of_ble_eq_true rfl) (fun v4 => ?_)
    refine a_istore (lc2 := [(6, .int v4), (5, .int v2), (0, .ref p0), (1, .int p1), (2, .int p2), (3, .int p3), (4, .int p4)]) dX11_fill_32 (by decide) rfl ?_
    refine a_iload dX11_fill_34 0 rfl ?_
    refine a_iconst (v := (-1)) dX11_fill_36 (by decide) ?_
    refine a_icmp_eq 54 dX11_fill_37 (by decide) (fun c5 => ?_) (fun c5 => ?_)
    · refine a_aload_n dX11_fill_54 rfl 2 rfl ?_
      refine a_iload_n dX11_fill_55 rfl 3 rfl ?_
      refine a_iload_n dX11_fill_56 rfl 5 rfl ?_
      refine a_iload dX11_fill_57 6 rfl ?_
      refine a_cV_Pi (r := p0) (ci := 12) (as := [.int p1, .int p3, .int p4]) (st := []) dX11_fill_59 (c_X11_usualRain l g h N p0 p1 p3 p4) rfl km_X11_usualRain (hm_X11_usualRain) rfl (by decide) rfl (fun _ ee => g_X11_usualRain ee) w_methodLink_RainCover_194 w_instanceMethod_RainCover_usualRain__III_I w_selects_RainCover_RainCover_usualRain__III_I_RainCover_usualRain__III_I ⟨⟨by decide, by decide⟩, ⟨by decide, by decide⟩⟩ (Nat.le_of_ble_eq_true rfl) (fun v6 => ?_)
      exact a_iret dX11_fill_62 rfl rfl (by decide) (by decide)
    · refine a_aload_n dX11_fill_40 rfl 2 rfl ?_
      refine a_getr kc12 4 dX11_fill_41 (by decide) rfl w_fieldLink_RainCover_30 (fun v7 => ?_)
      refine a_iload dX11_fill_44 0 rfl ?_
      refine a_iload_n dX11_fill_46 rfl 4 rfl ?_
      refine a_iload_n dX11_fill_47 rfl 5 rfl ?_
      refine a_iload dX11_fill_48 6 rfl ?_
      refine a_cV_Pi (r := v7) (ci := 10) (as := [.int v4, .int p2, .int p3, .int p4]) (st := []) dX11_fill_50 (c_X9_asKnown l g h N v7 v4 p2 p3 p4) rfl km_X9_asKnown (hm_X9_asKnown) rfl (by decide) rfl (fun _ ee => g_X9_asKnown ee) w_methodLink_RainCover_147 w_instanceMethod_RainCover_Tellings_asKnown__IIII_I w_selects_RainCover_Tellings_RainCover_Tellings_asKnown__IIII_I_RainCover_Tellings_asKnown__IIII_I ⟨⟨by decide, by decide⟩, ⟨by decide, by decide⟩⟩ (Nat.le_of_ble_eq_true rfl) (fun v8 => ?_)
      exact a_iret dX11_fill_53 rfl rfl (by decide) (by decide)
  · refine a_iload dX11_fill_20 0 rfl ?_
    exact a_iret dX11_fill_22 rfl rfl (by decide) (by decide)
theorem dX11_filled_0 : decode cX11_filled 0 = .ok (.aload_n 0, 1) := by decide +kernel
theorem dX11_filled_1 : decode cX11_filled 1 = .ok (.iload_n 1, 1) := by decide +kernel
theorem dX11_filled_2 : decode cX11_filled 2 = .ok (.iload_n 2, 1) := by decide +kernel
theorem dX11_filled_3 : decode cX11_filled 3 = .ok (.iload_n 3, 1) := by decide +kernel
theorem dX11_filled_4 : decode cX11_filled 4 = .ok (.invokevirtual 134, 3) := by decide +kernel
theorem dX11_filled_7 : decode cX11_filled 7 = .ok (.ifCond .eq 8, 3) := by decide +kernel
theorem dX11_filled_10 : decode cX11_filled 10 = .ok (.iload 4, 2) := by decide +kernel
theorem dX11_filled_12 : decode cX11_filled 12 = .ok (.ifCond .ge 6, 3) := by decide +kernel
theorem dX11_filled_15 : decode cX11_filled 15 = .ok (.bipush (-5), 2) := by decide +kernel
theorem dX11_filled_17 : decode cX11_filled 17 = .ok (.ireturn, 1) := by decide +kernel
theorem dX11_filled_18 : decode cX11_filled 18 = .ok (.aload_n 0, 1) := by decide +kernel
theorem dX11_filled_19 : decode cX11_filled 19 = .ok (.iload_n 1, 1) := by decide +kernel
theorem dX11_filled_20 : decode cX11_filled 20 = .ok (.iload_n 2, 1) := by decide +kernel
theorem dX11_filled_21 : decode cX11_filled 21 = .ok (.iload_n 3, 1) := by decide +kernel
theorem dX11_filled_22 : decode cX11_filled 22 = .ok (.iload 4, 2) := by decide +kernel
theorem dX11_filled_24 : decode cX11_filled 24 = .ok (.invokevirtual 169, 3) := by decide +kernel
theorem dX11_filled_27 : decode cX11_filled 27 = .ok (.ireturn, 1) := by decide +kernel
abbrev M_X11_filled : MI := (RX11, cX11_filled, 5, (some .int), ({ frames := 5, cells := 0, slots := 0, locals := 120 } : Room), 0, 0, false)
def f_X11_filled (h : AH) (N : Nat) (p0 : Nat) (p1 : Int32) (p2 : Int32) (p3 : Int32) (p4 : Int32) : Option Int32 := if kd h p0 = 12 + 1 then (f_X11_isGaugeWeek h p0 p1 p2 p3).bind fun v1 => (if v1 = 0 then some (-5) else (if 0 ≤ p4 then (f_X11_fill h N p0 p1 p2 p3 p4).bind fun v4 => some v4 else some (-5))) else none
theorem g_X11_filled {h : AH} {N : Nat} {p0 : Nat} {p1 : Int32} {p2 : Int32} {p3 : Int32} {p4 : Int32} {x : Int32} (e : f_X11_filled h N p0 p1 p2 p3 p4 = some x) : kd h p0 = 12 + 1 := by
  unfold f_X11_filled at e
  by_cases hk : kd h p0 = 12 + 1
  · exact hk
  · rw [if_neg hk] at e
    cases e
theorem km_X11_filled : KM yX11_filled M_X11_filled 4 := ⟨in_tb 390 (by decide +kernel) rfl, in_tb 1 (by decide +kernel) rfl, by decide +kernel, rfl, rfl⟩
theorem hm_X11_filled : M_X11_filled.2.2.2.2.2.1 = 0 ∧ M_X11_filled.2.2.2.2.2.2.1 = 0 := ⟨rfl, rfl⟩
section
variable {l : Launch} {g : GG}
end
set_option maxRecDepth 100000 in
set_option maxHeartbeats 4000000 in
theorem c_X11_filled (l : Launch) (g : GG) (h : AH) (N : Nat) (p0 : Nat) (p1 : Int32) (p2 : Int32) (p3 : Int32) (p4 : Int32) : CN l g yX11_filled M_X11_filled false [.ref p0, .int p1, .int p2, .int p3, .int p4] h ((rPi h)) (f_X11_filled h N p0 p1 p2 p3 p4) := by
  refine CN.of (by decide) rfl (fun hh => by first | rfl | cases hh) (Nat.le_of_ble_eq_true rfl) ?_
  unfold f_X11_filled
  refine a_gd (fun hkd => ?_)
  refine a_aload_n dX11_filled_0 rfl 0 rfl ?_
  refine a_iload_n dX11_filled_1 rfl 1 rfl ?_
  refine a_iload_n dX11_filled_2 rfl 2 rfl ?_
  refine a_iload_n dX11_filled_3 rfl 3 rfl ?_
  refine a_cV_Pi (r := p0) (ci := 12) (as := [.int p1, .int p2, .int p3]) (st := []) dX11_filled_4 (c_X11_isGaugeWeek l g h p0 p1 p2 p3) rfl km_X11_isGaugeWeek (hm_X11_isGaugeWeek) rfl (by decide) rfl (fun _ ee => g_X11_isGaugeWeek ee) w_methodLink_RainCover_134 w_instanceMethod_RainCover_isGaugeWeek__III_Z w_selects_RainCover_RainCover_isGaugeWeek__III_Z_RainCover_isGaugeWeek__III_Z ⟨⟨by decide, by decide⟩, ⟨by decide, by decide⟩⟩ (Nat.le_of_ble_eq_true rfl) (fun v1 => ?_)
  refine a_if_eq 15 dX11_filled_7 (by decide) (fun c2 => ?_) (fun c2 => ?_)
  · refine a_bipush (v := (-5)) dX11_filled_15 (by decide) ?_
    exact a_iret dX11_filled_17 rfl rfl (by decide) (by decide)
  · refine a_iload dX11_filled_10 4 rfl ?_
    refine a_if_ge 18 dX11_filled_12 (by decide) (fun c3 => ?_) (fun c3 => ?_)
    · refine a_aload_n dX11_filled_18 rfl 0 rfl ?_
      refine a_iload_n dX11_filled_19 rfl 1 rfl ?_
      refine a_iload_n dX11_filled_20 rfl 2 rfl ?_
      refine a_iload_n dX11_filled_21 rfl 3 rfl ?_
      refine a_iload dX11_filled_22 4 rfl ?_
      refine a_cV_Pi (r := p0) (ci := 12) (as := [.int p1, .int p2, .int p3, .int p4]) (st := []) dX11_filled_24 (c_X11_fill l g h N p0 p1 p2 p3 p4) rfl km_X11_fill (hm_X11_fill) rfl (by decide) rfl (fun _ ee => g_X11_fill ee) w_methodLink_RainCover_169 w_instanceMethod_RainCover_fill__IIII_I w_selects_RainCover_RainCover_fill__IIII_I_RainCover_fill__IIII_I ⟨⟨by decide, by decide⟩, ⟨by decide, by decide⟩⟩ (Nat.le_of_ble_eq_true rfl) (fun v4 => ?_)
      exact a_iret dX11_filled_27 rfl rfl (by decide) (by decide)
    · refine a_bipush (v := (-5)) dX11_filled_15 (by decide) ?_
      exact a_iret dX11_filled_17 rfl rfl (by decide) (by decide)
theorem dX11_now_0 : decode cX11_now 0 = .ok (.aload_n 0, 1) := by decide +kernel
theorem dX11_now_1 : decode cX11_now 1 = .ok (.getfield 30, 3) := by decide +kernel
theorem dX11_now_4 : decode cX11_now 4 = .ok (.getfield 490, 3) := by decide +kernel
theorem dX11_now_7 : decode cX11_now 7 = .ok (.ireturn, 1) := by decide +kernel
abbrev M_X11_now : MI := (RX11, cX11_now, 1, (some .int), ({ frames := 0, cells := 0, slots := 0, locals := 0 } : Room), 0, 0, false)
def f_X11_now (h : AH) (p0 : Nat) : Option Int32 := if kd h p0 = 12 + 1 then (xgr h p0 12 4).bind fun v1 => (xgi h v1 10 3).bind fun v2 => some v2 else none
theorem g_X11_now {h : AH} {p0 : Nat} {x : Int32} (e : f_X11_now h p0 = some x) : kd h p0 = 12 + 1 := by
  unfold f_X11_now at e
  by_cases hk : kd h p0 = 12 + 1
  · exact hk
  · rw [if_neg hk] at e
    cases e
theorem km_X11_now : KM yX11_now M_X11_now 0 := ⟨in_tb 417 (by decide +kernel) rfl, in_tb 1 (by decide +kernel) rfl, by decide +kernel, rfl, rfl⟩
theorem hm_X11_now : M_X11_now.2.2.2.2.2.1 = 0 ∧ M_X11_now.2.2.2.2.2.2.1 = 0 := ⟨rfl, rfl⟩
section
variable {l : Launch} {g : GG}
end
set_option maxRecDepth 100000 in
set_option maxHeartbeats 4000000 in
theorem c_X11_now (l : Launch) (g : GG) (h : AH) (p0 : Nat) : CN l g yX11_now M_X11_now false [.ref p0] h ((rPi h)) (f_X11_now h p0) := by
  refine CN.of (by decide) rfl (fun hh => by first | rfl | cases hh) (Nat.le_of_ble_eq_true rfl) ?_
  unfold f_X11_now
  refine a_gd (fun hkd => ?_)
  refine a_aload_n dX11_now_0 rfl 0 rfl ?_
  refine a_getr kc12 4 dX11_now_1 (by decide) rfl w_fieldLink_RainCover_30 (fun v1 => ?_)
  refine a_geti kc10 3 dX11_now_4 (by decide) rfl w_fieldLink_RainCover_490 (fun v2 => ?_)
  exact a_iret dX11_now_7 rfl rfl (by decide) (by decide)
theorem dX11_extreme_0 : decode cX11_extreme 0 = .ok (.iconst (-1), 1) := by decide +kernel
theorem dX11_extreme_1 : decode cX11_extreme 1 = .ok (.istore 5, 2) := by decide +kernel
theorem dX11_extreme_3 : decode cX11_extreme 3 = .ok (.aload_n 0, 1) := by decide +kernel
theorem dX11_extreme_4 : decode cX11_extreme 4 = .ok (.getfield 12, 3) := by decide +kernel
theorem dX11_extreme_7 : decode cX11_extreme 7 = .ok (.iload_n 1, 1) := by decide +kernel
theorem dX11_extreme_8 : decode cX11_extreme 8 = .ok (.invokevirtual 124, 3) := by decide +kernel
theorem dX11_extreme_11 : decode cX11_extreme 11 = .ok (.checkcast 108, 3) := by decide +kernel
theorem dX11_extreme_14 : decode cX11_extreme 14 = .ok (.astore 6, 2) := by decide +kernel
theorem dX11_extreme_16 : decode cX11_extreme 16 = .ok (.iconst 0, 1) := by decide +kernel
theorem dX11_extreme_17 : decode cX11_extreme 17 = .ok (.istore 7, 2) := by decide +kernel
theorem dX11_extreme_19 : decode cX11_extreme 19 = .ok (.iload 7, 2) := by decide +kernel
theorem dX11_extreme_21 : decode cX11_extreme 21 = .ok (.aload_n 0, 1) := by decide +kernel
theorem dX11_extreme_22 : decode cX11_extreme 22 = .ok (.getfield 12, 3) := by decide +kernel
theorem dX11_extreme_25 : decode cX11_extreme 25 = .ok (.invokevirtual 104, 3) := by decide +kernel
theorem dX11_extreme_28 : decode cX11_extreme 28 = .ok (.if_icmp .ge 122, 3) := by decide +kernel
theorem dX11_extreme_31 : decode cX11_extreme 31 = .ok (.aload_n 0, 1) := by decide +kernel
theorem dX11_extreme_32 : decode cX11_extreme 32 = .ok (.getfield 12, 3) := by decide +kernel
theorem dX11_extreme_35 : decode cX11_extreme 35 = .ok (.iload 7, 2) := by decide +kernel
theorem dX11_extreme_37 : decode cX11_extreme 37 = .ok (.invokevirtual 124, 3) := by decide +kernel
theorem dX11_extreme_40 : decode cX11_extreme 40 = .ok (.checkcast 108, 3) := by decide +kernel
theorem dX11_extreme_43 : decode cX11_extreme 43 = .ok (.astore 8, 2) := by decide +kernel
theorem dX11_extreme_45 : decode cX11_extreme 45 = .ok (.iload 7, 2) := by decide +kernel
theorem dX11_extreme_47 : decode cX11_extreme 47 = .ok (.iload_n 1, 1) := by decide +kernel
theorem dX11_extreme_48 : decode cX11_extreme 48 = .ok (.if_icmp .eq 96, 3) := by decide +kernel
theorem dX11_extreme_51 : decode cX11_extreme 51 = .ok (.aload 6, 2) := by decide +kernel
theorem dX11_extreme_53 : decode cX11_extreme 53 = .ok (.getfield 182, 3) := by decide +kernel
theorem dX11_extreme_56 : decode cX11_extreme 56 = .ok (.aload 6, 2) := by decide +kernel
theorem dX11_extreme_58 : decode cX11_extreme 58 = .ok (.getfield 185, 3) := by decide +kernel
theorem dX11_extreme_61 : decode cX11_extreme 61 = .ok (.aload 8, 2) := by decide +kernel
theorem dX11_extreme_63 : decode cX11_extreme 63 = .ok (.getfield 182, 3) := by decide +kernel
theorem dX11_extreme_66 : decode cX11_extreme 66 = .ok (.aload 8, 2) := by decide +kernel
theorem dX11_extreme_68 : decode cX11_extreme 68 = .ok (.getfield 185, 3) := by decide +kernel
theorem dX11_extreme_71 : decode cX11_extreme 71 = .ok (.invokestatic 188, 3) := by decide +kernel
theorem dX11_extreme_74 : decode cX11_extreme 74 = .ok (.aload_n 0, 1) := by decide +kernel
theorem dX11_extreme_75 : decode cX11_extreme 75 = .ok (.getfield 41, 3) := by decide +kernel
theorem dX11_extreme_78 : decode cX11_extreme 78 = .ok (.iconst 0, 1) := by decide +kernel
theorem dX11_extreme_79 : decode cX11_extreme 79 = .ok (.iaload, 1) := by decide +kernel
theorem dX11_extreme_80 : decode cX11_extreme 80 = .ok (.if_icmp .le 6, 3) := by decide +kernel
theorem dX11_extreme_83 : decode cX11_extreme 83 = .ok (.goto 61, 3) := by decide +kernel
theorem dX11_extreme_86 : decode cX11_extreme 86 = .ok (.aload_n 0, 1) := by decide +kernel
theorem dX11_extreme_87 : decode cX11_extreme 87 = .ok (.getfield 30, 3) := by decide +kernel
theorem dX11_extreme_90 : decode cX11_extreme 90 = .ok (.iload 7, 2) := by decide +kernel
theorem dX11_extreme_92 : decode cX11_extreme 92 = .ok (.iload_n 2, 1) := by decide +kernel
theorem dX11_extreme_93 : decode cX11_extreme 93 = .ok (.iload_n 3, 1) := by decide +kernel
theorem dX11_extreme_94 : decode cX11_extreme 94 = .ok (.aload_n 0, 1) := by decide +kernel
theorem dX11_extreme_95 : decode cX11_extreme 95 = .ok (.invokevirtual 179, 3) := by decide +kernel
theorem dX11_extreme_98 : decode cX11_extreme 98 = .ok (.invokevirtual 147, 3) := by decide +kernel
theorem dX11_extreme_101 : decode cX11_extreme 101 = .ok (.istore 9, 2) := by decide +kernel
theorem dX11_extreme_103 : decode cX11_extreme 103 = .ok (.iload 9, 2) := by decide +kernel
theorem dX11_extreme_105 : decode cX11_extreme 105 = .ok (.iconst (-1), 1) := by decide +kernel
theorem dX11_extreme_106 : decode cX11_extreme 106 = .ok (.if_icmp .ne 6, 3) := by decide +kernel
theorem dX11_extreme_109 : decode cX11_extreme 109 = .ok (.goto 35, 3) := by decide +kernel
theorem dX11_extreme_112 : decode cX11_extreme 112 = .ok (.iload 5, 2) := by decide +kernel
theorem dX11_extreme_114 : decode cX11_extreme 114 = .ok (.iconst (-1), 1) := by decide +kernel
theorem dX11_extreme_115 : decode cX11_extreme 115 = .ok (.if_icmp .eq 25, 3) := by decide +kernel
theorem dX11_extreme_118 : decode cX11_extreme 118 = .ok (.iload 4, 2) := by decide +kernel
theorem dX11_extreme_120 : decode cX11_extreme 120 = .ok (.ifCond .eq 13, 3) := by decide +kernel
theorem dX11_extreme_123 : decode cX11_extreme 123 = .ok (.iload 9, 2) := by decide +kernel
theorem dX11_extreme_125 : decode cX11_extreme 125 = .ok (.iload 5, 2) := by decide +kernel
theorem dX11_extreme_127 : decode cX11_extreme 127 = .ok (.if_icmp .le 17, 3) := by decide +kernel
theorem dX11_extreme_130 : decode cX11_extreme 130 = .ok (.goto 10, 3) := by decide +kernel
theorem dX11_extreme_133 : decode cX11_extreme 133 = .ok (.iload 9, 2) := by decide +kernel
theorem dX11_extreme_135 : decode cX11_extreme 135 = .ok (.iload 5, 2) := by decide +kernel
theorem dX11_extreme_137 : decode cX11_extreme 137 = .ok (.if_icmp .ge 7, 3) := by decide +kernel
theorem dX11_extreme_140 : decode cX11_extreme 140 = .ok (.iload 9, 2) := by decide +kernel
theorem dX11_extreme_142 : decode cX11_extreme 142 = .ok (.istore 5, 2) := by decide +kernel
theorem dX11_extreme_144 : decode cX11_extreme 144 = .ok (.iinc 7 1, 3) := by decide +kernel
theorem dX11_extreme_147 : decode cX11_extreme 147 = .ok (.goto (-128), 3) := by decide +kernel
theorem dX11_extreme_150 : decode cX11_extreme 150 = .ok (.iload 5, 2) := by decide +kernel
theorem dX11_extreme_152 : decode cX11_extreme 152 = .ok (.ireturn, 1) := by decide +kernel
abbrev M_X11_extreme : MI := (RX11, cX11_extreme, 10, (some .int), ({ frames := 3, cells := 0, slots := 0, locals := 64 } : Room), 0, 0, false)
def f_X11_extreme_b144 (h : AH) (N : Nat) (K19 : Nat → Int32 → Int32 → Int32 → Int32 → Int32 → Nat → Int32 → Option Int32) (x0 : Nat) (x1 : Int32) (x2 : Int32) (x3 : Int32) (x4 : Int32) (x5 : Int32) (x6 : Nat) (x7 : Int32) : Option Int32 := K19 x0 x1 x2 x3 x4 x5 x6 (x7 + 1)
def f_X11_extreme_b140 (h : AH) (N : Nat) (K19 : Nat → Int32 → Int32 → Int32 → Int32 → Int32 → Nat → Int32 → Option Int32) (x0 : Nat) (x1 : Int32) (x2 : Int32) (x3 : Int32) (x4 : Int32) (x6 : Nat) (x7 : Int32) (x9 : Int32) : Option Int32 := f_X11_extreme_b144 h N K19 x0 x1 x2 x3 x4 x9 x6 x7
def f_X11_extreme_b19_body (h : AH) (N : Nat) (K19 : Nat → Int32 → Int32 → Int32 → Int32 → Int32 → Nat → Int32 → Option Int32) (x0 : Nat) (x1 : Int32) (x2 : Int32) (x3 : Int32) (x4 : Int32) (x5 : Int32) (x6 : Nat) (x7 : Int32) : Option Int32 := (xgr h x0 12 0).bind fun v3 => (f_Jx4a65c_size_8abf5 h v3).bind fun v4 => (if v4 ≤ x7 then some x5 else (xgr h x0 12 0).bind fun v6 => (f_Jx4a65c_get_915e3 h v6 x7).bind fun v7 => (xcc h v7 4).bind fun _ => (if x7 = x1 then f_X11_extreme_b144 h N K19 x0 x1 x2 x3 x4 x5 x6 x7 else (xgi h x6 4 0).bind fun v9 => (xgi h x6 4 1).bind fun v10 => (xgi h v7 4 0).bind fun v11 => (xgi h v7 4 1).bind fun v12 => (f_X11_distance h v9 v10 v11 v12).bind fun v13 => (xgr h x0 12 6).bind fun v14 => (xia h v14 0).bind fun v15 => (if v13 ≤ v15 then (xgr h x0 12 4).bind fun v17 => (f_X11_now h x0).bind fun v18 => (f_X9_asKnown h N v17 x7 x2 x3 v18).bind fun v19 => (if v19 = (-1) then f_X11_extreme_b144 h N K19 x0 x1 x2 x3 x4 x5 x6 x7 else (if x5 = (-1) then f_X11_extreme_b140 h N K19 x0 x1 x2 x3 x4 x6 x7 v19 else (if x4 = 0 then (if x5 ≤ v19 then f_X11_extreme_b144 h N K19 x0 x1 x2 x3 x4 x5 x6 x7 else f_X11_extreme_b140 h N K19 x0 x1 x2 x3 x4 x6 x7 v19) else (if v19 ≤ x5 then f_X11_extreme_b144 h N K19 x0 x1 x2 x3 x4 x5 x6 x7 else f_X11_extreme_b140 h N K19 x0 x1 x2 x3 x4 x6 x7 v19)))) else f_X11_extreme_b144 h N K19 x0 x1 x2 x3 x4 x5 x6 x7)))
def f_X11_extreme_b19 (h : AH) (N : Nat) : Nat → Nat → Int32 → Int32 → Int32 → Int32 → Int32 → Nat → Int32 → Option Int32
  | 0, _, _, _, _, _, _, _, _ => none
  | n + 1, x0, x1, x2, x3, x4, x5, x6, x7 => f_X11_extreme_b19_body h N  (f_X11_extreme_b19 h N  n) x0 x1 x2 x3 x4 x5 x6 x7
def f_X11_extreme (h : AH) (N : Nat) (p0 : Nat) (p1 : Int32) (p2 : Int32) (p3 : Int32) (p4 : Int32) : Option Int32 := if kd h p0 = 12 + 1 then (xgr h p0 12 0).bind fun v1 => (f_Jx4a65c_get_915e3 h v1 p1).bind fun v2 => (xcc h v2 4).bind fun _ => f_X11_extreme_b19 h N N p0 p1 p2 p3 p4 (-1) v2 0 else none
theorem g_X11_extreme {h : AH} {N : Nat} {p0 : Nat} {p1 : Int32} {p2 : Int32} {p3 : Int32} {p4 : Int32} {x : Int32} (e : f_X11_extreme h N p0 p1 p2 p3 p4 = some x) : kd h p0 = 12 + 1 := by
  unfold f_X11_extreme at e
  by_cases hk : kd h p0 = 12 + 1
  · exact hk
  · rw [if_neg hk] at e
    cases e
theorem km_X11_extreme : KM yX11_extreme M_X11_extreme 4 := ⟨in_tb 413 (by decide +kernel) rfl, in_tb 1 (by decide +kernel) rfl, by decide +kernel, rfl, rfl⟩
theorem hm_X11_extreme : M_X11_extreme.2.2.2.2.2.1 = 0 ∧ M_X11_extreme.2.2.2.2.2.2.1 = 0 := ⟨rfl, rfl⟩
section
variable {l : Launch} {g : GG}
set_option maxRecDepth 100000 in
set_option maxHeartbeats 4000000 in
theorem t_X11_extreme_b144 (h : AH) (N : Nat) (K19 : Nat → Int32 → Int32 → Int32 → Int32 → Int32 → Nat → Int32 → Option Int32) (hK19 : ∀ (z0 : Nat) (z1 : Int32) (z2 : Int32) (z3 : Int32) (z4 : Int32) (z5 : Int32) (z6 : Nat) (z7 : Int32), AO l g M_X11_extreme false h 19 [(0, .ref z0), (1, .int z1), (2, .int z2), (3, .int z3), (4, .int z4), (5, .int z5), (6, .ref z6), (7, .int z7)] [] h 0 0 (rPi h) (K19 z0 z1 z2 z3 z4 z5 z6 z7)) (x0 : Nat) (x1 : Int32) (x2 : Int32) (x3 : Int32) (x4 : Int32) (x5 : Int32) (x6 : Nat) (x7 : Int32) : AO l g M_X11_extreme false h 144 [(0, .ref x0), (1, .int x1), (2, .int x2), (3, .int x3), (4, .int x4), (5, .int x5), (6, .ref x6), (7, .int x7)] [] h 0 0 (rPi h) (f_X11_extreme_b144 h N K19 x0 x1 x2 x3 x4 x5 x6 x7) := by
  unfold f_X11_extreme_b144
  refine a_iinc (q := 7) (v := (x7 + 1)) (lc2 := [(7, .int (x7 + 1)), (0, .ref x0), (1, .int x1), (2, .int x2), (3, .int x3), (4, .int x4), (5, .int x5), (6, .ref x6)]) dX11_extreme_144 rfl rfl (by decide) rfl ?_
  refine a_goto 19 dX11_extreme_147 (by decide) ?_
  refine a_pick (lc2 := [(0, .ref x0), (1, .int x1), (2, .int x2), (3, .int x3), (4, .int x4), (5, .int x5), (6, .ref x6), (7, .int (x7 + 1))]) [1, 2, 3, 4, 5, 6, 7, 0] rfl ?_
  exact hK19 x0 x1 x2 x3 x4 x5 x6 (x7 + 1)
set_option maxRecDepth 100000 in
set_option maxHeartbeats 4000000 in
theorem t_X11_extreme_b140 (h : AH) (N : Nat) (K19 : Nat → Int32 → Int32 → Int32 → Int32 → Int32 → Nat → Int32 → Option Int32) (hK19 : ∀ (z0 : Nat) (z1 : Int32) (z2 : Int32) (z3 : Int32) (z4 : Int32) (z5 : Int32) (z6 : Nat) (z7 : Int32), AO l g M_X11_extreme false h 19 [(0, .ref z0), (1, .int z1), (2, .int z2), (3, .int z3), (4, .int z4), (5, .int z5), (6, .ref z6), (7, .int z7)] [] h 0 0 (rPi h) (K19 z0 z1 z2 z3 z4 z5 z6 z7)) (x0 : Nat) (x1 : Int32) (x2 : Int32) (x3 : Int32) (x4 : Int32) (x6 : Nat) (x7 : Int32) (x9 : Int32) : AO l g M_X11_extreme false h 140 [(0, .ref x0), (1, .int x1), (2, .int x2), (3, .int x3), (4, .int x4), (6, .ref x6), (7, .int x7), (9, .int x9)] [] h 0 0 (rPi h) (f_X11_extreme_b140 h N K19 x0 x1 x2 x3 x4 x6 x7 x9) := by
  unfold f_X11_extreme_b140
  refine a_iload dX11_extreme_140 7 rfl ?_
  refine a_istore (lc2 := [(5, .int x9), (0, .ref x0), (1, .int x1), (2, .int x2), (3, .int x3), (4, .int x4), (6, .ref x6), (7, .int x7), (9, .int x9)]) dX11_extreme_142 (by decide) rfl ?_
  refine a_pick (lc2 := [(0, .ref x0), (1, .int x1), (2, .int x2), (3, .int x3), (4, .int x4), (5, .int x9), (6, .ref x6), (7, .int x7)]) [1, 2, 3, 4, 5, 0, 6, 7] rfl ?_
  exact t_X11_extreme_b144 h N K19 hK19 x0 x1 x2 x3 x4 x9 x6 x7
set_option maxRecDepth 100000 in
set_option maxHeartbeats 4000000 in
theorem t_X11_extreme_b19_body (h : AH) (N : Nat) (K19 : Nat → Int32 → Int32 → Int32 → Int32 → Int32 → Nat → Int32 → Option Int32) (hK19 : ∀ (z0 : Nat) (z1 : Int32) (z2 : Int32) (z3 : Int32) (z4 : Int32) (z5 : Int32) (z6 : Nat) (z7 : Int32), AO l g M_X11_extreme false h 19 [(0, .ref z0), (1, .int z1), (2, .int z2), (3, .int z3), (4, .int z4), (5, .int z5), (6, .ref z6), (7, .int z7)] [] h 0 0 (rPi h) (K19 z0 z1 z2 z3 z4 z5 z6 z7)) (x0 : Nat) (x1 : Int32) (x2 : Int32) (x3 : Int32) (x4 : Int32) (x5 : Int32) (x6 : Nat) (x7 : Int32) : AO l g M_X11_extreme false h 19 [(0, .ref x0), (1, .int x1), (2, .int x2), (3, .int x3), (4, .int x4), (5, .int x5), (6, .ref x6), (7, .int x7)] [] h 0 0 (rPi h) (f_X11_extreme_b19_body h N K19 x0 x1 x2 x3 x4 x5 x6 x7) := by
  unfold f_X11_extreme_b19_body
  refine a_iload dX11_extreme_19 7 rfl ?_
  refine a_aload_n dX11_extreme_21 rfl 0 rfl ?_
  refine a_getr kc12 0 dX11_extreme_22 (by decide) rfl w_fieldLink_RainCover_12 (fun v3 => ?_)
  refine a_cV_Pi (r := v3) (ci := 0) (as := []) (st := [.int x7]) dX11_extreme_25 (c_Jx4a65c_size_8abf5 l g h v3) rfl km_Jx4a65c_size_8abf5 (hm_Jx4a65c_size_8abf5) rfl (by decide) rfl (fun _ ee => g_Jx4a65c_size_8abf5 ee) w_methodLink_RainCover_104 w_instanceMethod_java_util_ArrayList_size___I w_selects_java_util_ArrayList_java_util_ArrayList_size___I_java_util_ArrayList_size___I ⟨⟨by decide, by decide⟩, ⟨by decide, by decide⟩⟩ (Nat.le_of_ble_eq_true rfl) (fun v4 => ?_)
  refine a_icmp_ge 150 dX11_extreme_28 (by decide) (fun c5 => ?_) (fun c5 => ?_)
  · refine a_iload dX11_extreme_150 5 rfl ?_
    exact a_iret dX11_extreme_152 rfl rfl (by decide) (by decide)
  · refine a_aload_n dX11_extreme_31 rfl 0 rfl ?_
    refine a_getr kc12 0 dX11_extreme_32 (by decide) rfl w_fieldLink_RainCover_12 (fun v6 => ?_)
    refine a_iload dX11_extreme_35 7 rfl ?_
    refine a_cV_Pr (r := v6) (ci := 0) (as := [.int x7]) (st := []) dX11_extreme_37 (c_Jx4a65c_get_915e3 l g h v6 x7) rfl km_Jx4a65c_get_915e3 (hm_Jx4a65c_get_915e3) rfl (by decide) rfl (fun _ ee => g_Jx4a65c_get_915e3 ee) w_methodLink_RainCover_124 w_instanceMethod_java_util_ArrayList_get__I_Ljava_lang_Object_ w_selects_java_util_ArrayList_java_util_ArrayList_get__I_Ljava_lang_Object__java_util_ArrayList_get__I_Ljava_lang_Object_ ⟨⟨by decide, by decide⟩, ⟨by decide, by decide⟩⟩ (Nat.le_of_ble_eq_true rfl) (fun v7 => ?_)
    refine a_cast kc4 dX11_extreme_40 w_classLink_RainCover_108 ?_
    refine a_astore (lc2 := [(8, .ref v7), (0, .ref x0), (1, .int x1), (2, .int x2), (3, .int x3), (4, .int x4), (5, .int x5), (6, .ref x6), (7, .int x7)]) dX11_extreme_43 (by decide) rfl ?_
    refine a_iload dX11_extreme_45 8 rfl ?_
    refine a_iload_n dX11_extreme_47 rfl 2 rfl ?_
    refine a_icmp_eq 144 dX11_extreme_48 (by decide) (fun c8 => ?_) (fun c8 => ?_)
    · refine a_pick (lc2 := [(0, .ref x0), (1, .int x1), (2, .int x2), (3, .int x3), (4, .int x4), (5, .int x5), (6, .ref x6), (7, .int x7)]) [1, 2, 3, 4, 5, 6, 7, 8] rfl ?_
      exact t_X11_extreme_b144 h N K19 hK19 x0 x1 x2 x3 x4 x5 x6 x7
    · refine a_aload dX11_extreme_51 7 rfl ?_
      refine a_geti kc4 0 dX11_extreme_53 (by decide) rfl w_fieldLink_RainCover_182 (fun v9 => ?_)
      refine a_aload dX11_extreme_56 7 rfl ?_
      refine a_geti kc4 1 dX11_extreme_58 (by decide) rfl w_fieldLink_RainCover_185 (fun v10 => ?_)
      refine a_aload dX11_extreme_61 0 rfl ?_
      refine a_geti kc4 0 dX11_extreme_63 (by decide) rfl w_fieldLink_RainCover_182 (fun v11 => ?_)
      refine a_aload dX11_extreme_66 0 rfl ?_
      refine a_geti kc4 1 dX11_extreme_68 (by decide) rfl w_fieldLink_RainCover_185 (fun v12 => ?_)
      refine a_cS_Pi (as := [.int v9, .int v10, .int v11, .int v12]) (st := []) dX11_extreme_71 (c_X11_distance l g h v9 v10 v11 v12) rfl km_X11_distance (hm_X11_distance) w_methodLink_RainCover_188 w_static_RainCover_distance__IIII_I ⟨⟨by decide, by decide⟩, ⟨by decide, by decide⟩⟩ (Nat.le_of_ble_eq_true rfl) (fun v13 => ?_)
      refine a_aload_n dX11_extreme_74 rfl 1 rfl ?_
      refine a_getr kc12 6 dX11_extreme_75 (by decide) rfl w_fieldLink_RainCover_41 (fun v14 => ?_)
      refine a_iconst (v := 0) dX11_extreme_78 (by decide) ?_
      refine a_iald dX11_extreme_79 (fun v15 => ?_)
      refine a_icmp_le 86 dX11_extreme_80 (by decide) (fun c16 => ?_) (fun c16 => ?_)
      · refine a_aload_n dX11_extreme_86 rfl 1 rfl ?_
        refine a_getr kc12 4 dX11_extreme_87 (by decide) rfl w_fieldLink_RainCover_30 (fun v17 => ?_)
        refine a_iload dX11_extreme_90 8 rfl ?_
        refine a_iload_n dX11_extreme_92 rfl 3 rfl ?_
        refine a_iload_n dX11_extreme_93 rfl 4 rfl ?_
        refine a_aload_n dX11_extreme_94 rfl 1 rfl ?_
        refine a_cV_Pi (r := x0) (ci := 12) (as := []) (st := [.int x3, .int x2, .int x7, .ref v17]) dX11_extreme_95 (c_X11_now l g h x0) rfl km_X11_now (hm_X11_now) rfl (by decide) rfl (fun _ ee => g_X11_now ee) w_methodLink_RainCover_179 w_instanceMethod_RainCover_now___I w_selects_RainCover_RainCover_now___I_RainCover_now___I ⟨⟨by decide, by decide⟩, ⟨by decide, by decide⟩⟩ (Nat.le_of_ble_eq_true rfl) (fun v18 => ?_)
        refine a_cV_Pi (r := v17) (ci := 10) (as := [.int x7, .int x2, .int x3, .int v18]) (st := []) dX11_extreme_98 (c_X9_asKnown l g h N v17 x7 x2 x3 v18) rfl km_X9_asKnown (hm_X9_asKnown) rfl (by decide) rfl (fun _ ee => g_X9_asKnown ee) w_methodLink_RainCover_147 w_instanceMethod_RainCover_Tellings_asKnown__IIII_I w_selects_RainCover_Tellings_RainCover_Tellings_asKnown__IIII_I_RainCover_Tellings_asKnown__IIII_I ⟨⟨by decide, by decide⟩, ⟨by decide, by decide⟩⟩ (Nat.le_of_ble_eq_true rfl) (fun v19 => ?_)
        refine a_istore (lc2 := [(9, .int v19), (8, .ref v7), (0, .ref x0), (1, .int x1), (2, .int x2), (3, .int x3), (4, .int x4), (5, .int x5), (6, .ref x6), (7, .int x7)]) dX11_extreme_101 (by decide) rfl ?_
        refine a_iload dX11_extreme_103 0 rfl ?_
        refine a_iconst (v := (-1)) dX11_extreme_105 (by decide) ?_
        refine a_icmp_ne 112 dX11_extreme_106 (by decide) (fun c20 => ?_) (fun c20 => ?_)
        · refine a_goto 144 dX11_extreme_109 (by decide) ?_
          refine a_pick (lc2 := [(0, .ref x0), (1, .int x1), (2, .int x2), (3, .int x3), (4, .int x4), (5, .int x5), (6, .ref x6), (7, .int x7)]) [2, 3, 4, 5, 6, 7, 8, 9] rfl ?_
          exact t_X11_extreme_b144 h N K19 hK19 x0 x1 x2 x3 x4 x5 x6 x7
        · refine a_iload dX11_extreme_112 7 rfl ?_
          refine a_iconst (v := (-1)) dX11_extreme_114 (by decide) ?_
          refine a_icmp_eq 140 dX11_extreme_115 (by decide) (fun c21 => ?_) (fun c21 => ?_)
          · refine a_pick (lc2 := [(0, .ref x0), (1, .int x1), (2, .int x2), (3, .int x3), (4, .int x4), (6, .ref x6), (7, .int x7), (9, .int v19)]) [2, 3, 4, 5, 6, 8, 9, 0] rfl ?_
            exact t_X11_extreme_b140 h N K19 hK19 x0 x1 x2 x3 x4 x6 x7 v19
          · refine a_iload dX11_extreme_118 6 rfl ?_
            refine a_if_eq 133 dX11_extreme_120 (by decide) (fun c22 => ?_) (fun c22 => ?_)
            · refine a_iload dX11_extreme_133 0 rfl ?_
              refine a_iload dX11_extreme_135 7 rfl ?_
              refine a_icmp_ge 144 dX11_extreme_137 (by decide) (fun c23 => ?_) (fun c23 => ?_)
              · refine a_pick (lc2 := [(0, .ref x0), (1, .int x1), (2, .int x2), (3, .int x3), (4, .int x4), (5, .int x5), (6, .ref x6), (7, .int x7)]) [2, 3, 4, 5, 6, 7, 8, 9] rfl ?_
                exact t_X11_extreme_b144 h N K19 hK19 x0 x1 x2 x3 x4 x5 x6 x7
              · refine a_pick (lc2 := [(0, .ref x0), (1, .int x1), (2, .int x2), (3, .int x3), (4, .int x4), (6, .ref x6), (7, .int x7), (9, .int v19)]) [2, 3, 4, 5, 6, 8, 9, 0] rfl ?_
                exact t_X11_extreme_b140 h N K19 hK19 x0 x1 x2 x3 x4 x6 x7 v19
            · refine a_iload dX11_extreme_123 0 rfl ?_
              refine a_iload dX11_extreme_125 7 rfl ?_
              refine a_icmp_le 144 dX11_extreme_127 (by decide) (fun c24 => ?_) (fun c24 => ?_)
              · refine a_pick (lc2 := [(0, .ref x0), (1, .int x1), (2, .int x2), (3, .int x3), (4, .int x4), (5, .int x5), (6, .ref x6), (7, .int x7)]) [2, 3, 4, 5, 6, 7, 8, 9] rfl ?_
                exact t_X11_extreme_b144 h N K19 hK19 x0 x1 x2 x3 x4 x5 x6 x7
              · refine a_goto 140 dX11_extreme_130 (by decide) ?_
                refine a_pick (lc2 := [(0, .ref x0), (1, .int x1), (2, .int x2), (3, .int x3), (4, .int x4), (6, .ref x6), (7, .int x7), (9, .int v19)]) [2, 3, 4, 5, 6, 8, 9, 0] rfl ?_
                exact t_X11_extreme_b140 h N K19 hK19 x0 x1 x2 x3 x4 x6 x7 v19
      · refine a_goto 144 dX11_extreme_83 (by decide) ?_
        refine a_pick (lc2 := [(0, .ref x0), (1, .int x1), (2, .int x2), (3, .int x3), (4, .int x4), (5, .int x5), (6, .ref x6), (7, .int x7)]) [1, 2, 3, 4, 5, 6, 7, 8] rfl ?_
        exact t_X11_extreme_b144 h N K19 hK19 x0 x1 x2 x3 x4 x5 x6 x7
set_option maxRecDepth 100000 in
set_option maxHeartbeats 4000000 in
theorem t_X11_extreme_b19 (h : AH) (N : Nat) : ∀ (n : Nat) (x0 : Nat) (x1 : Int32) (x2 : Int32) (x3 : Int32) (x4 : Int32) (x5 : Int32) (x6 : Nat) (x7 : Int32) , AO l g M_X11_extreme false h 19 [(0, .ref x0), (1, .int x1), (2, .int x2), (3, .int x3), (4, .int x4), (5, .int x5), (6, .ref x6), (7, .int x7)] [] h 0 0 (rPi h) (f_X11_extreme_b19 h N  n x0 x1 x2 x3 x4 x5 x6 x7) := by
  intro n
  induction n with
  | zero => intro x0 x1 x2 x3 x4 x5 x6 x7; exact a_eq rfl a_none
  | succ n ih => intro x0 x1 x2 x3 x4 x5 x6 x7; exact a_eq rfl (t_X11_extreme_b19_body h N  (f_X11_extreme_b19 h N  n) ih x0 x1 x2 x3 x4 x5 x6 x7)
end
set_option maxRecDepth 100000 in
set_option maxHeartbeats 4000000 in
theorem c_X11_extreme (l : Launch) (g : GG) (h : AH) (N : Nat) (p0 : Nat) (p1 : Int32) (p2 : Int32) (p3 : Int32) (p4 : Int32) : CN l g yX11_extreme M_X11_extreme false [.ref p0, .int p1, .int p2, .int p3, .int p4] h ((rPi h)) (f_X11_extreme h N p0 p1 p2 p3 p4) := by
  refine CN.of (by decide) rfl (fun hh => by first | rfl | cases hh) (Nat.le_of_ble_eq_true rfl) ?_
  unfold f_X11_extreme
  refine a_gd (fun hkd => ?_)
  refine a_iconst (v := (-1)) dX11_extreme_0 (by decide) ?_
  refine a_istore (lc2 := [(5, .int (-1)), (0, .ref p0), (1, .int p1), (2, .int p2), (3, .int p3), (4, .int p4)]) dX11_extreme_1 (by decide) rfl ?_
  refine a_aload_n dX11_extreme_3 rfl 1 rfl ?_
  refine a_getr kc12 0 dX11_extreme_4 (by decide) rfl w_fieldLink_RainCover_12 (fun v1 => ?_)
  refine a_iload_n dX11_extreme_7 rfl 2 rfl ?_
  refine a_cV_Pr (r := v1) (ci := 0) (as := [.int p1]) (st := []) dX11_extreme_8 (c_Jx4a65c_get_915e3 l g h v1 p1) rfl km_Jx4a65c_get_915e3 (hm_Jx4a65c_get_915e3) rfl (by decide) rfl (fun _ ee => g_Jx4a65c_get_915e3 ee) w_methodLink_RainCover_124 w_instanceMethod_java_util_ArrayList_get__I_Ljava_lang_Object_ w_selects_java_util_ArrayList_java_util_ArrayList_get__I_Ljava_lang_Object__java_util_ArrayList_get__I_Ljava_lang_Object_ ⟨⟨by decide, by decide⟩, ⟨by decide, by decide⟩⟩ (Nat.le_of_ble_eq_true rfl) (fun v2 => ?_)
  refine a_cast kc4 dX11_extreme_11 w_classLink_RainCover_108 ?_
  refine a_astore (lc2 := [(6, .ref v2), (5, .int (-1)), (0, .ref p0), (1, .int p1), (2, .int p2), (3, .int p3), (4, .int p4)]) dX11_extreme_14 (by decide) rfl ?_
  refine a_iconst (v := 0) dX11_extreme_16 (by decide) ?_
  refine a_istore (lc2 := [(7, .int 0), (6, .ref v2), (5, .int (-1)), (0, .ref p0), (1, .int p1), (2, .int p2), (3, .int p3), (4, .int p4)]) dX11_extreme_17 (by decide) rfl ?_
  refine a_pick (lc2 := [(0, .ref p0), (1, .int p1), (2, .int p2), (3, .int p3), (4, .int p4), (5, .int (-1)), (6, .ref v2), (7, .int 0)]) [3, 4, 5, 6, 7, 2, 1, 0] rfl ?_
  exact t_X11_extreme_b19 h N N p0 p1 p2 p3 p4 (-1) v2 0
theorem dX11_span_0 : decode cX11_span 0 = .ok (.aload_n 0, 1) := by decide +kernel
theorem dX11_span_1 : decode cX11_span 1 = .ok (.iload_n 1, 1) := by decide +kernel
theorem dX11_span_2 : decode cX11_span 2 = .ok (.iload_n 2, 1) := by decide +kernel
theorem dX11_span_3 : decode cX11_span 3 = .ok (.iload_n 3, 1) := by decide +kernel
theorem dX11_span_4 : decode cX11_span 4 = .ok (.invokevirtual 134, 3) := by decide +kernel
theorem dX11_span_7 : decode cX11_span 7 = .ok (.ifCond .eq 13, 3) := by decide +kernel
theorem dX11_span_10 : decode cX11_span 10 = .ok (.iload 4, 2) := by decide +kernel
theorem dX11_span_12 : decode cX11_span 12 = .ok (.iconst 0, 1) := by decide +kernel
theorem dX11_span_13 : decode cX11_span 13 = .ok (.iconst 1, 1) := by decide +kernel
theorem dX11_span_14 : decode cX11_span 14 = .ok (.invokestatic 120, 3) := by decide +kernel
theorem dX11_span_17 : decode cX11_span 17 = .ok (.ifCond .ne 6, 3) := by decide +kernel
theorem dX11_span_20 : decode cX11_span 20 = .ok (.bipush (-5), 2) := by decide +kernel
theorem dX11_span_22 : decode cX11_span 22 = .ok (.ireturn, 1) := by decide +kernel
theorem dX11_span_23 : decode cX11_span 23 = .ok (.aload_n 0, 1) := by decide +kernel
theorem dX11_span_24 : decode cX11_span 24 = .ok (.iload_n 1, 1) := by decide +kernel
theorem dX11_span_25 : decode cX11_span 25 = .ok (.iload_n 2, 1) := by decide +kernel
theorem dX11_span_26 : decode cX11_span 26 = .ok (.iload_n 3, 1) := by decide +kernel
theorem dX11_span_27 : decode cX11_span 27 = .ok (.iload 4, 2) := by decide +kernel
theorem dX11_span_29 : decode cX11_span 29 = .ok (.iconst 1, 1) := by decide +kernel
theorem dX11_span_30 : decode cX11_span 30 = .ok (.if_icmp .ne 7, 3) := by decide +kernel
theorem dX11_span_33 : decode cX11_span 33 = .ok (.iconst 1, 1) := by decide +kernel
theorem dX11_span_34 : decode cX11_span 34 = .ok (.goto 4, 3) := by decide +kernel
theorem dX11_span_37 : decode cX11_span 37 = .ok (.iconst 0, 1) := by decide +kernel
theorem dX11_span_38 : decode cX11_span 38 = .ok (.invokevirtual 172, 3) := by decide +kernel
theorem dX11_span_41 : decode cX11_span 41 = .ok (.ireturn, 1) := by decide +kernel
abbrev M_X11_span : MI := (RX11, cX11_span, 5, (some .int), ({ frames := 4, cells := 0, slots := 0, locals := 93 } : Room), 0, 0, false)
def f_X11_span_b38 (h : AH) (N : Nat) (s0 : Int32) (s1 : Int32) (s2 : Int32) (s3 : Int32) (s4 : Nat) : Option Int32 := (f_X11_extreme h N s4 s3 s2 s1 s0).bind fun v6 => some v6
def f_X11_span (h : AH) (N : Nat) (p0 : Nat) (p1 : Int32) (p2 : Int32) (p3 : Int32) (p4 : Int32) : Option Int32 := if kd h p0 = 12 + 1 then (f_X11_isGaugeWeek h p0 p1 p2 p3).bind fun v1 => (if v1 = 0 then some (-5) else (f_X11_within h p4 0 1).bind fun v3 => (if v3 = 0 then some (-5) else (if p4 = 1 then f_X11_span_b38 h N 1 p3 p2 p1 p0 else f_X11_span_b38 h N 0 p3 p2 p1 p0))) else none
theorem g_X11_span {h : AH} {N : Nat} {p0 : Nat} {p1 : Int32} {p2 : Int32} {p3 : Int32} {p4 : Int32} {x : Int32} (e : f_X11_span h N p0 p1 p2 p3 p4 = some x) : kd h p0 = 12 + 1 := by
  unfold f_X11_span at e
  by_cases hk : kd h p0 = 12 + 1
  · exact hk
  · rw [if_neg hk] at e
    cases e
theorem km_X11_span : KM yX11_span M_X11_span 4 := ⟨in_tb 409 (by decide +kernel) rfl, in_tb 1 (by decide +kernel) rfl, by decide +kernel, rfl, rfl⟩
theorem hm_X11_span : M_X11_span.2.2.2.2.2.1 = 0 ∧ M_X11_span.2.2.2.2.2.2.1 = 0 := ⟨rfl, rfl⟩
section
variable {l : Launch} {g : GG}
set_option maxRecDepth 100000 in
set_option maxHeartbeats 4000000 in
theorem t_X11_span_b38 (h : AH) (N : Nat) (s0 : Int32) (s1 : Int32) (s2 : Int32) (s3 : Int32) (s4 : Nat) : AO l g M_X11_span false h 38 [] [.int s0, .int s1, .int s2, .int s3, .ref s4] h 0 0 (rPi h) (f_X11_span_b38 h N  s0 s1 s2 s3 s4) := by
  unfold f_X11_span_b38
  refine a_cV_Pi (r := s4) (ci := 12) (as := [.int s3, .int s2, .int s1, .int s0]) (st := []) dX11_span_38 (c_X11_extreme l g h N s4 s3 s2 s1 s0) rfl km_X11_extreme (hm_X11_extreme) rfl (by decide) rfl (fun _ ee => g_X11_extreme ee) w_methodLink_RainCover_172 w_instanceMethod_RainCover_extreme__IIIZ_I w_selects_RainCover_RainCover_extreme__IIIZ_I_RainCover_extreme__IIIZ_I ⟨⟨by decide, by decide⟩, ⟨by decide, by decide⟩⟩ (Nat.le_of_ble_eq_true rfl) (fun v6 => ?_)
  exact a_iret dX11_span_41 rfl rfl (by decide) (by decide)
end
set_option maxRecDepth 100000 in
set_option maxHeartbeats 4000000 in
theorem c_X11_span (l : Launch) (g : GG) (h : AH) (N : Nat) (p0 : Nat) (p1 : Int32) (p2 : Int32) (p3 : Int32) (p4 : Int32) : CN l g yX11_span M_X11_span false [.ref p0, .int p1, .int p2, .int p3, .int p4] h ((rPi h)) (f_X11_span h N p0 p1 p2 p3 p4) := by
  refine CN.of (by decide) rfl (fun hh => by first | rfl | cases hh) (Nat.le_of_ble_eq_true rfl) ?_
  unfold f_X11_span
  refine a_gd (fun hkd => ?_)
  refine a_aload_n dX11_span_0 rfl 0 rfl ?_
  refine a_iload_n dX11_span_1 rfl 1 rfl ?_
  refine a_iload_n dX11_span_2 rfl 2 rfl ?_
  refine a_iload_n dX11_span_3 rfl 3 rfl ?_
  refine a_cV_Pi (r := p0) (ci := 12) (as := [.int p1, .int p2, .int p3]) (st := []) dX11_span_4 (c_X11_isGaugeWeek l g h p0 p1 p2 p3) rfl km_X11_isGaugeWeek (hm_X11_isGaugeWeek) rfl (by decide) rfl (fun _ ee => g_X11_isGaugeWeek ee) w_methodLink_RainCover_134 w_instanceMethod_RainCover_isGaugeWeek__III_Z w_selects_RainCover_RainCover_isGaugeWeek__III_Z_RainCover_isGaugeWeek__III_Z ⟨⟨by decide, by decide⟩, ⟨by decide, by decide⟩⟩ (Nat.le_of_ble_eq_true rfl) (fun v1 => ?_)
  refine a_if_eq 20 dX11_span_7 (by decide) (fun c2 => ?_) (fun c2 => ?_)
  · refine a_bipush (v := (-5)) dX11_span_20 (by decide) ?_
    exact a_iret dX11_span_22 rfl rfl (by decide) (by decide)
  · refine a_iload dX11_span_10 4 rfl ?_
    refine a_iconst (v := 0) dX11_span_12 (by decide) ?_
    refine a_iconst (v := 1) dX11_span_13 (by decide) ?_
    refine a_cS_Pi (as := [.int p4, .int 0, .int 1]) (st := []) dX11_span_14 (c_X11_within l g h p4 0 1) rfl km_X11_within (hm_X11_within) w_methodLink_RainCover_120 w_static_RainCover_within__III_Z ⟨⟨by decide, by decide⟩, ⟨by decide, by decide⟩⟩ (Nat.le_of_ble_eq_true rfl) (fun v3 => ?_)
    refine a_if_ne 23 dX11_span_17 (by decide) (fun c4 => ?_) (fun c4 => ?_)
    · refine a_bipush (v := (-5)) dX11_span_20 (by decide) ?_
      exact a_iret dX11_span_22 rfl rfl (by decide) (by decide)
    · refine a_aload_n dX11_span_23 rfl 0 rfl ?_
      refine a_iload_n dX11_span_24 rfl 1 rfl ?_
      refine a_iload_n dX11_span_25 rfl 2 rfl ?_
      refine a_iload_n dX11_span_26 rfl 3 rfl ?_
      refine a_iload dX11_span_27 4 rfl ?_
      refine a_iconst (v := 1) dX11_span_29 (by decide) ?_
      refine a_icmp_ne 37 dX11_span_30 (by decide) (fun c5 => ?_) (fun c5 => ?_)
      · refine a_iconst (v := 1) dX11_span_33 (by decide) ?_
        refine a_goto 38 dX11_span_34 (by decide) ?_
        refine a_pick (lc2 := []) [] rfl ?_
        exact t_X11_span_b38 h N 1 p3 p2 p1 p0
      · refine a_iconst (v := 0) dX11_span_37 (by decide) ?_
        refine a_pick (lc2 := []) [] rfl ?_
        exact t_X11_span_b38 h N 0 p3 p2 p1 p0
theorem dX11_isOddWeek_0 : decode cX11_isOddWeek 0 = .ok (.aload_n 0, 1) := by decide +kernel
theorem dX11_isOddWeek_1 : decode cX11_isOddWeek 1 = .ok (.getfield 30, 3) := by decide +kernel
theorem dX11_isOddWeek_4 : decode cX11_isOddWeek 4 = .ok (.iload_n 1, 1) := by decide +kernel
theorem dX11_isOddWeek_5 : decode cX11_isOddWeek 5 = .ok (.iload_n 2, 1) := by decide +kernel
theorem dX11_isOddWeek_6 : decode cX11_isOddWeek 6 = .ok (.iload_n 3, 1) := by decide +kernel
theorem dX11_isOddWeek_7 : decode cX11_isOddWeek 7 = .ok (.aload_n 0, 1) := by decide +kernel
theorem dX11_isOddWeek_8 : decode cX11_isOddWeek 8 = .ok (.invokevirtual 179, 3) := by decide +kernel
theorem dX11_isOddWeek_11 : decode cX11_isOddWeek 11 = .ok (.invokevirtual 147, 3) := by decide +kernel
theorem dX11_isOddWeek_14 : decode cX11_isOddWeek 14 = .ok (.istore 4, 2) := by decide +kernel
theorem dX11_isOddWeek_16 : decode cX11_isOddWeek 16 = .ok (.aload_n 0, 1) := by decide +kernel
theorem dX11_isOddWeek_17 : decode cX11_isOddWeek 17 = .ok (.iload_n 1, 1) := by decide +kernel
theorem dX11_isOddWeek_18 : decode cX11_isOddWeek 18 = .ok (.iload_n 2, 1) := by decide +kernel
theorem dX11_isOddWeek_19 : decode cX11_isOddWeek 19 = .ok (.iload_n 3, 1) := by decide +kernel
theorem dX11_isOddWeek_20 : decode cX11_isOddWeek 20 = .ok (.iconst 0, 1) := by decide +kernel
theorem dX11_isOddWeek_21 : decode cX11_isOddWeek 21 = .ok (.invokevirtual 172, 3) := by decide +kernel
theorem dX11_isOddWeek_24 : decode cX11_isOddWeek 24 = .ok (.istore 5, 2) := by decide +kernel
theorem dX11_isOddWeek_26 : decode cX11_isOddWeek 26 = .ok (.iload 4, 2) := by decide +kernel
theorem dX11_isOddWeek_28 : decode cX11_isOddWeek 28 = .ok (.iconst (-1), 1) := by decide +kernel
theorem dX11_isOddWeek_29 : decode cX11_isOddWeek 29 = .ok (.if_icmp .eq 9, 3) := by decide +kernel
theorem dX11_isOddWeek_32 : decode cX11_isOddWeek 32 = .ok (.iload 5, 2) := by decide +kernel
theorem dX11_isOddWeek_34 : decode cX11_isOddWeek 34 = .ok (.iconst (-1), 1) := by decide +kernel
theorem dX11_isOddWeek_35 : decode cX11_isOddWeek 35 = .ok (.if_icmp .ne 5, 3) := by decide +kernel
theorem dX11_isOddWeek_38 : decode cX11_isOddWeek 38 = .ok (.iconst 0, 1) := by decide +kernel
theorem dX11_isOddWeek_39 : decode cX11_isOddWeek 39 = .ok (.ireturn, 1) := by decide +kernel
theorem dX11_isOddWeek_40 : decode cX11_isOddWeek 40 = .ok (.aload_n 0, 1) := by decide +kernel
theorem dX11_isOddWeek_41 : decode cX11_isOddWeek 41 = .ok (.iload_n 1, 1) := by decide +kernel
theorem dX11_isOddWeek_42 : decode cX11_isOddWeek 42 = .ok (.iload_n 2, 1) := by decide +kernel
theorem dX11_isOddWeek_43 : decode cX11_isOddWeek 43 = .ok (.iload_n 3, 1) := by decide +kernel
theorem dX11_isOddWeek_44 : decode cX11_isOddWeek 44 = .ok (.iconst 1, 1) := by decide +kernel
theorem dX11_isOddWeek_45 : decode cX11_isOddWeek 45 = .ok (.invokevirtual 172, 3) := by decide +kernel
theorem dX11_isOddWeek_48 : decode cX11_isOddWeek 48 = .ok (.istore 6, 2) := by decide +kernel
theorem dX11_isOddWeek_50 : decode cX11_isOddWeek 50 = .ok (.iload 5, 2) := by decide +kernel
theorem dX11_isOddWeek_52 : decode cX11_isOddWeek 52 = .ok (.iload 4, 2) := by decide +kernel
theorem dX11_isOddWeek_54 : decode cX11_isOddWeek 54 = .ok (.isub, 1) := by decide +kernel
theorem dX11_isOddWeek_55 : decode cX11_isOddWeek 55 = .ok (.aload_n 0, 1) := by decide +kernel
theorem dX11_isOddWeek_56 : decode cX11_isOddWeek 56 = .ok (.getfield 41, 3) := by decide +kernel
theorem dX11_isOddWeek_59 : decode cX11_isOddWeek 59 = .ok (.iconst 1, 1) := by decide +kernel
theorem dX11_isOddWeek_60 : decode cX11_isOddWeek 60 = .ok (.iaload, 1) := by decide +kernel
theorem dX11_isOddWeek_61 : decode cX11_isOddWeek 61 = .ok (.if_icmp .gt 17, 3) := by decide +kernel
theorem dX11_isOddWeek_64 : decode cX11_isOddWeek 64 = .ok (.iload 4, 2) := by decide +kernel
theorem dX11_isOddWeek_66 : decode cX11_isOddWeek 66 = .ok (.iload 6, 2) := by decide +kernel
theorem dX11_isOddWeek_68 : decode cX11_isOddWeek 68 = .ok (.isub, 1) := by decide +kernel
theorem dX11_isOddWeek_69 : decode cX11_isOddWeek 69 = .ok (.aload_n 0, 1) := by decide +kernel
theorem dX11_isOddWeek_70 : decode cX11_isOddWeek 70 = .ok (.getfield 41, 3) := by decide +kernel
theorem dX11_isOddWeek_73 : decode cX11_isOddWeek 73 = .ok (.iconst 1, 1) := by decide +kernel
theorem dX11_isOddWeek_74 : decode cX11_isOddWeek 74 = .ok (.iaload, 1) := by decide +kernel
theorem dX11_isOddWeek_75 : decode cX11_isOddWeek 75 = .ok (.if_icmp .le 7, 3) := by decide +kernel
theorem dX11_isOddWeek_78 : decode cX11_isOddWeek 78 = .ok (.iconst 1, 1) := by decide +kernel
theorem dX11_isOddWeek_79 : decode cX11_isOddWeek 79 = .ok (.goto 4, 3) := by decide +kernel
theorem dX11_isOddWeek_82 : decode cX11_isOddWeek 82 = .ok (.iconst 0, 1) := by decide +kernel
theorem dX11_isOddWeek_83 : decode cX11_isOddWeek 83 = .ok (.ireturn, 1) := by decide +kernel
abbrev M_X11_isOddWeek : MI := (RX11, cX11_isOddWeek, 7, (some .boolean), ({ frames := 4, cells := 0, slots := 0, locals := 93 } : Room), 0, 0, false)
def f_X11_isOddWeek_b78 (h : AH) (N : Nat) : Option Int32 := some 1
def f_X11_isOddWeek (h : AH) (N : Nat) (p0 : Nat) (p1 : Int32) (p2 : Int32) (p3 : Int32) : Option Int32 := if kd h p0 = 12 + 1 then (xgr h p0 12 4).bind fun v1 => (f_X11_now h p0).bind fun v2 => (f_X9_asKnown h N v1 p1 p2 p3 v2).bind fun v3 => (f_X11_extreme h N p0 p1 p2 p3 0).bind fun v4 => (if v3 = (-1) then some 0 else (if v4 = (-1) then some 0 else (f_X11_extreme h N p0 p1 p2 p3 1).bind fun v7 => (xgr h p0 12 6).bind fun v8 => (xia h v8 1).bind fun v9 => (if v9 < (v4 - v3) then f_X11_isOddWeek_b78 h N else (xgr h p0 12 6).bind fun v11 => (xia h v11 1).bind fun v12 => (if (v3 - v7) ≤ v12 then some 0 else f_X11_isOddWeek_b78 h N)))) else none
theorem g_X11_isOddWeek {h : AH} {N : Nat} {p0 : Nat} {p1 : Int32} {p2 : Int32} {p3 : Int32} {x : Int32} (e : f_X11_isOddWeek h N p0 p1 p2 p3 = some x) : kd h p0 = 12 + 1 := by
  unfold f_X11_isOddWeek at e
  by_cases hk : kd h p0 = 12 + 1
  · exact hk
  · rw [if_neg hk] at e
    cases e
theorem km_X11_isOddWeek : KM yX11_isOddWeek M_X11_isOddWeek 3 := ⟨in_tb 425 (by decide +kernel) rfl, in_tb 1 (by decide +kernel) rfl, by decide +kernel, rfl, rfl⟩
theorem hm_X11_isOddWeek : M_X11_isOddWeek.2.2.2.2.2.1 = 0 ∧ M_X11_isOddWeek.2.2.2.2.2.2.1 = 0 := ⟨rfl, rfl⟩
section
variable {l : Launch} {g : GG}
set_option maxRecDepth 100000 in
set_option maxHeartbeats 4000000 in
theorem t_X11_isOddWeek_b78 (h : AH) (N : Nat) : AO l g M_X11_isOddWeek false h 78 [] [] h 0 0 (rPi h) (f_X11_isOddWeek_b78 h N  ) := by
  unfold f_X11_isOddWeek_b78
  refine a_iconst (v := 1) dX11_isOddWeek_78 (by decide) ?_
  refine a_goto 83 dX11_isOddWeek_79 (by decide) ?_
  exact a_zret dX11_isOddWeek_83 rfl (Or.inr rfl) rfl (by decide) (by decide)
end
set_option maxRecDepth 100000 in
set_option maxHeartbeats 4000000 in
theorem c_X11_isOddWeek (l : Launch) (g : GG) (h : AH) (N : Nat) (p0 : Nat) (p1 : Int32) (p2 : Int32) (p3 : Int32) : CN l g yX11_isOddWeek M_X11_isOddWeek false [.ref p0, .int p1, .int p2, .int p3] h ((rPi h)) (f_X11_isOddWeek h N p0 p1 p2 p3) := by
  refine CN.of (by decide) rfl (fun hh => by first | rfl | cases hh) (Nat.le_of_ble_eq_true rfl) ?_
  unfold f_X11_isOddWeek
  refine a_gd (fun hkd => ?_)
  refine a_aload_n dX11_isOddWeek_0 rfl 0 rfl ?_
  refine a_getr kc12 4 dX11_isOddWeek_1 (by decide) rfl w_fieldLink_RainCover_30 (fun v1 => ?_)
  refine a_iload_n dX11_isOddWeek_4 rfl 1 rfl ?_
  refine a_iload_n dX11_isOddWeek_5 rfl 2 rfl ?_
  refine a_iload_n dX11_isOddWeek_6 rfl 3 rfl ?_
  refine a_aload_n dX11_isOddWeek_7 rfl 0 rfl ?_
  refine a_cV_Pi (r := p0) (ci := 12) (as := []) (st := [.int p3, .int p2, .int p1, .ref v1]) dX11_isOddWeek_8 (c_X11_now l g h p0) rfl km_X11_now (hm_X11_now) rfl (by decide) rfl (fun _ ee => g_X11_now ee) w_methodLink_RainCover_179 w_instanceMethod_RainCover_now___I w_selects_RainCover_RainCover_now___I_RainCover_now___I ⟨⟨by decide, by decide⟩, ⟨by decide, by decide⟩⟩ (Nat.le_of_ble_eq_true rfl) (fun v2 => ?_)
  refine a_cV_Pi (r := v1) (ci := 10) (as := [.int p1, .int p2, .int p3, .int v2]) (st := []) dX11_isOddWeek_11 (c_X9_asKnown l g h N v1 p1 p2 p3 v2) rfl km_X9_asKnown (hm_X9_asKnown) rfl (by decide) rfl (fun _ ee => g_X9_asKnown ee) w_methodLink_RainCover_147 w_instanceMethod_RainCover_Tellings_asKnown__IIII_I w_selects_RainCover_Tellings_RainCover_Tellings_asKnown__IIII_I_RainCover_Tellings_asKnown__IIII_I ⟨⟨by decide, by decide⟩, ⟨by decide, by decide⟩⟩ (Nat.le_of_ble_eq_true rfl) (fun v3 => ?_)
  refine a_istore (lc2 := [(4, .int v3), (0, .ref p0), (1, .int p1), (2, .int p2), (3, .int p3)]) dX11_isOddWeek_14 (by decide) rfl ?_
  refine a_aload_n dX11_isOddWeek_16 rfl 1 rfl ?_
  refine a_iload_n dX11_isOddWeek_17 rfl 2 rfl ?_
  refine a_iload_n dX11_isOddWeek_18 rfl 3 rfl ?_
  refine a_iload_n dX11_isOddWeek_19 rfl 4 rfl ?_
  refine a_iconst (v := 0) dX11_isOddWeek_20 (by decide) ?_
  refine a_cV_Pi (r := p0) (ci := 12) (as := [.int p1, .int p2, .int p3, .int 0]) (st := []) dX11_isOddWeek_21 (c_X11_extreme l g h N p0 p1 p2 p3 0) rfl km_X11_extreme (hm_X11_extreme) rfl (by decide) rfl (fun _ ee => g_X11_extreme ee) w_methodLink_RainCover_172 w_instanceMethod_RainCover_extreme__IIIZ_I w_selects_RainCover_RainCover_extreme__IIIZ_I_RainCover_extreme__IIIZ_I ⟨⟨by decide, by decide⟩, ⟨by decide, by decide⟩⟩ (Nat.le_of_ble_eq_true rfl) (fun v4 => ?_)
  refine a_istore (lc2 := [(5, .int v4), (4, .int v3), (0, .ref p0), (1, .int p1), (2, .int p2), (3, .int p3)]) dX11_isOddWeek_24 (by decide) rfl ?_
  refine a_iload dX11_isOddWeek_26 1 rfl ?_
  refine a_iconst (v := (-1)) dX11_isOddWeek_28 (by decide) ?_
  refine a_icmp_eq 38 dX11_isOddWeek_29 (by decide) (fun c5 => ?_) (fun c5 => ?_)
  · refine a_iconst (v := 0) dX11_isOddWeek_38 (by decide) ?_
    exact a_zret dX11_isOddWeek_39 rfl (Or.inl rfl) rfl (by decide) (by decide)
  · refine a_iload dX11_isOddWeek_32 0 rfl ?_
    refine a_iconst (v := (-1)) dX11_isOddWeek_34 (by decide) ?_
    refine a_icmp_ne 40 dX11_isOddWeek_35 (by decide) (fun c6 => ?_) (fun c6 => ?_)
    · refine a_iconst (v := 0) dX11_isOddWeek_38 (by decide) ?_
      exact a_zret dX11_isOddWeek_39 rfl (Or.inl rfl) rfl (by decide) (by decide)
    · refine a_aload_n dX11_isOddWeek_40 rfl 2 rfl ?_
      refine a_iload_n dX11_isOddWeek_41 rfl 3 rfl ?_
      refine a_iload_n dX11_isOddWeek_42 rfl 4 rfl ?_
      refine a_iload_n dX11_isOddWeek_43 rfl 5 rfl ?_
      refine a_iconst (v := 1) dX11_isOddWeek_44 (by decide) ?_
      refine a_cV_Pi (r := p0) (ci := 12) (as := [.int p1, .int p2, .int p3, .int 1]) (st := []) dX11_isOddWeek_45 (c_X11_extreme l g h N p0 p1 p2 p3 1) rfl km_X11_extreme (hm_X11_extreme) rfl (by decide) rfl (fun _ ee => g_X11_extreme ee) w_methodLink_RainCover_172 w_instanceMethod_RainCover_extreme__IIIZ_I w_selects_RainCover_RainCover_extreme__IIIZ_I_RainCover_extreme__IIIZ_I ⟨⟨by decide, by decide⟩, ⟨by decide, by decide⟩⟩ (Nat.le_of_ble_eq_true rfl) (fun v7 => ?_)
      refine a_istore (lc2 := [(6, .int v7), (5, .int v4), (4, .int v3), (0, .ref p0), (1, .int p1), (2, .int p2), (3, .int p3)]) dX11_isOddWeek_48 (by decide) rfl ?_
      refine a_iload dX11_isOddWeek_50 1 rfl ?_
      refine a_iload dX11_isOddWeek_52 2 rfl ?_
      refine a_isub dX11_isOddWeek_54 ?_
      refine a_aload_n dX11_isOddWeek_55 rfl 3 rfl ?_
      refine a_getr kc12 6 dX11_isOddWeek_56 (by decide) rfl w_fieldLink_RainCover_41 (fun v8 => ?_)
      refine a_iconst (v := 1) dX11_isOddWeek_59 (by decide) ?_
      refine a_iald dX11_isOddWeek_60 (fun v9 => ?_)
      refine a_icmp_gt 78 dX11_isOddWeek_61 (by decide) (fun c10 => ?_) (fun c10 => ?_)
      · refine a_pick (lc2 := []) [] rfl ?_
        exact t_X11_isOddWeek_b78 h N
      · refine a_iload dX11_isOddWeek_64 2 rfl ?_
        refine a_iload dX11_isOddWeek_66 0 rfl ?_
        refine a_isub dX11_isOddWeek_68 ?_
        refine a_aload_n dX11_isOddWeek_69 rfl 3 rfl ?_
        refine a_getr kc12 6 dX11_isOddWeek_70 (by decide) rfl w_fieldLink_RainCover_41 (fun v11 => ?_)
        refine a_iconst (v := 1) dX11_isOddWeek_73 (by decide) ?_
        refine a_iald dX11_isOddWeek_74 (fun v12 => ?_)
        refine a_icmp_le 82 dX11_isOddWeek_75 (by decide) (fun c13 => ?_) (fun c13 => ?_)
        · refine a_iconst (v := 0) dX11_isOddWeek_82 (by decide) ?_
          exact a_zret dX11_isOddWeek_83 rfl (Or.inl rfl) rfl (by decide) (by decide)
        · refine a_pick (lc2 := []) [] rfl ?_
          exact t_X11_isOddWeek_b78 h N
theorem dX11_odd_0 : decode cX11_odd 0 = .ok (.aload_n 0, 1) := by decide +kernel
theorem dX11_odd_1 : decode cX11_odd 1 = .ok (.iload_n 1, 1) := by decide +kernel
theorem dX11_odd_2 : decode cX11_odd 2 = .ok (.invokevirtual 117, 3) := by decide +kernel
theorem dX11_odd_5 : decode cX11_odd 5 = .ok (.ifCond .eq 10, 3) := by decide +kernel
theorem dX11_odd_8 : decode cX11_odd 8 = .ok (.iload_n 2, 1) := by decide +kernel
theorem dX11_odd_9 : decode cX11_odd 9 = .ok (.invokestatic 100, 3) := by decide +kernel
theorem dX11_odd_12 : decode cX11_odd 12 = .ok (.ifCond .ne 5, 3) := by decide +kernel
theorem dX11_odd_15 : decode cX11_odd 15 = .ok (.iconst (-1), 1) := by decide +kernel
theorem dX11_odd_16 : decode cX11_odd 16 = .ok (.ireturn, 1) := by decide +kernel
theorem dX11_odd_17 : decode cX11_odd 17 = .ok (.iconst 0, 1) := by decide +kernel
theorem dX11_odd_18 : decode cX11_odd 18 = .ok (.istore_n 3, 1) := by decide +kernel
theorem dX11_odd_19 : decode cX11_odd 19 = .ok (.iconst 0, 1) := by decide +kernel
theorem dX11_odd_20 : decode cX11_odd 20 = .ok (.istore 4, 2) := by decide +kernel
theorem dX11_odd_22 : decode cX11_odd 22 = .ok (.iload 4, 2) := by decide +kernel
theorem dX11_odd_24 : decode cX11_odd 24 = .ok (.bipush 12, 2) := by decide +kernel
theorem dX11_odd_26 : decode cX11_odd 26 = .ok (.if_icmp .ge 23, 3) := by decide +kernel
theorem dX11_odd_29 : decode cX11_odd 29 = .ok (.aload_n 0, 1) := by decide +kernel
theorem dX11_odd_30 : decode cX11_odd 30 = .ok (.iload_n 1, 1) := by decide +kernel
theorem dX11_odd_31 : decode cX11_odd 31 = .ok (.iload_n 2, 1) := by decide +kernel
theorem dX11_odd_32 : decode cX11_odd 32 = .ok (.iload 4, 2) := by decide +kernel
theorem dX11_odd_34 : decode cX11_odd 34 = .ok (.invokevirtual 176, 3) := by decide +kernel
theorem dX11_odd_37 : decode cX11_odd 37 = .ok (.ifCond .eq 6, 3) := by decide +kernel
theorem dX11_odd_40 : decode cX11_odd 40 = .ok (.iinc 3 1, 3) := by decide +kernel
theorem dX11_odd_43 : decode cX11_odd 43 = .ok (.iinc 4 1, 3) := by decide +kernel
theorem dX11_odd_46 : decode cX11_odd 46 = .ok (.goto (-24), 3) := by decide +kernel
theorem dX11_odd_49 : decode cX11_odd 49 = .ok (.iload_n 3, 1) := by decide +kernel
theorem dX11_odd_50 : decode cX11_odd 50 = .ok (.ireturn, 1) := by decide +kernel
abbrev M_X11_odd : MI := (RX11, cX11_odd, 5, (some .int), ({ frames := 5, cells := 0, slots := 0, locals := 119 } : Room), 0, 0, false)
def f_X11_odd_b43 (h : AH) (N : Nat) (K22 : Nat → Int32 → Int32 → Int32 → Int32 → Option Int32) (x0 : Nat) (x1 : Int32) (x2 : Int32) (x3 : Int32) (x4 : Int32) : Option Int32 := K22 x0 x1 x2 x3 (x4 + 1)
def f_X11_odd_b22_body (h : AH) (N : Nat) (K22 : Nat → Int32 → Int32 → Int32 → Int32 → Option Int32) (x0 : Nat) (x1 : Int32) (x2 : Int32) (x3 : Int32) (x4 : Int32) : Option Int32 := (if 12 ≤ x4 then some x3 else (f_X11_isOddWeek h N x0 x1 x2 x4).bind fun v6 => (if v6 = 0 then f_X11_odd_b43 h N K22 x0 x1 x2 x3 x4 else f_X11_odd_b43 h N K22 x0 x1 x2 (x3 + 1) x4))
def f_X11_odd_b22 (h : AH) (N : Nat) : Nat → Nat → Int32 → Int32 → Int32 → Int32 → Option Int32
  | 0, _, _, _, _, _ => none
  | n + 1, x0, x1, x2, x3, x4 => f_X11_odd_b22_body h N  (f_X11_odd_b22 h N  n) x0 x1 x2 x3 x4
def f_X11_odd (h : AH) (N : Nat) (p0 : Nat) (p1 : Int32) (p2 : Int32) : Option Int32 := if kd h p0 = 12 + 1 then (f_X11_isGauge h p0 p1).bind fun v1 => (if v1 = 0 then some (-1) else (f_X11_isSeason h p2).bind fun v3 => (if v3 = 0 then some (-1) else f_X11_odd_b22 h N N p0 p1 p2 0 0)) else none
theorem g_X11_odd {h : AH} {N : Nat} {p0 : Nat} {p1 : Int32} {p2 : Int32} {x : Int32} (e : f_X11_odd h N p0 p1 p2 = some x) : kd h p0 = 12 + 1 := by
  unfold f_X11_odd at e
  by_cases hk : kd h p0 = 12 + 1
  · exact hk
  · rw [if_neg hk] at e
    cases e
theorem km_X11_odd : KM yX11_odd M_X11_odd 2 := ⟨in_tb 421 (by decide +kernel) rfl, in_tb 1 (by decide +kernel) rfl, by decide +kernel, rfl, rfl⟩
theorem hm_X11_odd : M_X11_odd.2.2.2.2.2.1 = 0 ∧ M_X11_odd.2.2.2.2.2.2.1 = 0 := ⟨rfl, rfl⟩
section
variable {l : Launch} {g : GG}
set_option maxRecDepth 100000 in
set_option maxHeartbeats 4000000 in
theorem t_X11_odd_b43 (h : AH) (N : Nat) (K22 : Nat → Int32 → Int32 → Int32 → Int32 → Option Int32) (hK22 : ∀ (z0 : Nat) (z1 : Int32) (z2 : Int32) (z3 : Int32) (z4 : Int32), AO l g M_X11_odd false h 22 [(0, .ref z0), (1, .int z1), (2, .int z2), (3, .int z3), (4, .int z4)] [] h 0 0 (rPi h) (K22 z0 z1 z2 z3 z4)) (x0 : Nat) (x1 : Int32) (x2 : Int32) (x3 : Int32) (x4 : Int32) : AO l g M_X11_odd false h 43 [(0, .ref x0), (1, .int x1), (2, .int x2), (3, .int x3), (4, .int x4)] [] h 0 0 (rPi h) (f_X11_odd_b43 h N K22 x0 x1 x2 x3 x4) := by
  unfold f_X11_odd_b43
  refine a_iinc (q := 4) (v := (x4 + 1)) (lc2 := [(4, .int (x4 + 1)), (0, .ref x0), (1, .int x1), (2, .int x2), (3, .int x3)]) dX11_odd_43 rfl rfl (by decide) rfl ?_
  refine a_goto 22 dX11_odd_46 (by decide) ?_
  refine a_pick (lc2 := [(0, .ref x0), (1, .int x1), (2, .int x2), (3, .int x3), (4, .int (x4 + 1))]) [1, 2, 3, 4, 0] rfl ?_
  exact hK22 x0 x1 x2 x3 (x4 + 1)
set_option maxRecDepth 100000 in
set_option maxHeartbeats 4000000 in
theorem t_X11_odd_b22_body (h : AH) (N : Nat) (K22 : Nat → Int32 → Int32 → Int32 → Int32 → Option Int32) (hK22 : ∀ (z0 : Nat) (z1 : Int32) (z2 : Int32) (z3 : Int32) (z4 : Int32), AO l g M_X11_odd false h 22 [(0, .ref z0), (1, .int z1), (2, .int z2), (3, .int z3), (4, .int z4)] [] h 0 0 (rPi h) (K22 z0 z1 z2 z3 z4)) (x0 : Nat) (x1 : Int32) (x2 : Int32) (x3 : Int32) (x4 : Int32) : AO l g M_X11_odd false h 22 [(0, .ref x0), (1, .int x1), (2, .int x2), (3, .int x3), (4, .int x4)] [] h 0 0 (rPi h) (f_X11_odd_b22_body h N K22 x0 x1 x2 x3 x4) := by
  unfold f_X11_odd_b22_body
  refine a_iload dX11_odd_22 4 rfl ?_
  refine a_bipush (v := 12) dX11_odd_24 (by decide) ?_
  refine a_icmp_ge 49 dX11_odd_26 (by decide) (fun c5 => ?_) (fun c5 => ?_)
  · refine a_iload_n dX11_odd_49 rfl 3 rfl ?_
    exact a_iret dX11_odd_50 rfl rfl (by decide) (by decide)
  · refine a_aload_n dX11_odd_29 rfl 0 rfl ?_
    refine a_iload_n dX11_odd_30 rfl 1 rfl ?_
    refine a_iload_n dX11_odd_31 rfl 2 rfl ?_
    refine a_iload dX11_odd_32 4 rfl ?_
    refine a_cV_Pi (r := x0) (ci := 12) (as := [.int x1, .int x2, .int x4]) (st := []) dX11_odd_34 (c_X11_isOddWeek l g h N x0 x1 x2 x4) rfl km_X11_isOddWeek (hm_X11_isOddWeek) rfl (by decide) rfl (fun _ ee => g_X11_isOddWeek ee) w_methodLink_RainCover_176 w_instanceMethod_RainCover_isOddWeek__III_Z w_selects_RainCover_RainCover_isOddWeek__III_Z_RainCover_isOddWeek__III_Z ⟨⟨by decide, by decide⟩, ⟨by decide, by decide⟩⟩ (Nat.le_of_ble_eq_true rfl) (fun v6 => ?_)
    refine a_if_eq 43 dX11_odd_37 (by decide) (fun c7 => ?_) (fun c7 => ?_)
    · exact t_X11_odd_b43 h N K22 hK22 x0 x1 x2 x3 x4
    · refine a_iinc (q := 3) (v := (x3 + 1)) (lc2 := [(3, .int (x3 + 1)), (0, .ref x0), (1, .int x1), (2, .int x2), (4, .int x4)]) dX11_odd_40 rfl rfl (by decide) rfl ?_
      refine a_pick (lc2 := [(0, .ref x0), (1, .int x1), (2, .int x2), (3, .int (x3 + 1)), (4, .int x4)]) [1, 2, 3, 0, 4] rfl ?_
      exact t_X11_odd_b43 h N K22 hK22 x0 x1 x2 (x3 + 1) x4
set_option maxRecDepth 100000 in
set_option maxHeartbeats 4000000 in
theorem t_X11_odd_b22 (h : AH) (N : Nat) : ∀ (n : Nat) (x0 : Nat) (x1 : Int32) (x2 : Int32) (x3 : Int32) (x4 : Int32) , AO l g M_X11_odd false h 22 [(0, .ref x0), (1, .int x1), (2, .int x2), (3, .int x3), (4, .int x4)] [] h 0 0 (rPi h) (f_X11_odd_b22 h N  n x0 x1 x2 x3 x4) := by
  intro n
  induction n with
  | zero => intro x0 x1 x2 x3 x4; exact a_eq rfl a_none
  | succ n ih => intro x0 x1 x2 x3 x4; exact a_eq rfl (t_X11_odd_b22_body h N  (f_X11_odd_b22 h N  n) ih x0 x1 x2 x3 x4)
end
set_option maxRecDepth 100000 in
set_option maxHeartbeats 4000000 in
theorem c_X11_odd (l : Launch) (g : GG) (h : AH) (N : Nat) (p0 : Nat) (p1 : Int32) (p2 : Int32) : CN l g yX11_odd M_X11_odd false [.ref p0, .int p1, .int p2] h ((rPi h)) (f_X11_odd h N p0 p1 p2) := by
  refine CN.of (by decide) rfl (fun hh => by first | rfl | cases hh) (Nat.le_of_ble_eq_true rfl) ?_
  unfold f_X11_odd
  refine a_gd (fun hkd => ?_)
  refine a_aload_n dX11_odd_0 rfl 0 rfl ?_
  refine a_iload_n dX11_odd_1 rfl 1 rfl ?_
  refine a_cV_Pi (r := p0) (ci := 12) (as := [.int p1]) (st := []) dX11_odd_2 (c_X11_isGauge l g h p0 p1) rfl km_X11_isGauge (hm_X11_isGauge) rfl (by decide) rfl (fun _ ee => g_X11_isGauge ee) w_methodLink_RainCover_117 w_instanceMethod_RainCover_isGauge__I_Z w_selects_RainCover_RainCover_isGauge__I_Z_RainCover_isGauge__I_Z ⟨⟨by decide, by decide⟩, ⟨by decide, by decide⟩⟩ (Nat.le_of_ble_eq_true rfl) (fun v1 => ?_)
  refine a_if_eq 15 dX11_odd_5 (by decide) (fun c2 => ?_) (fun c2 => ?_)
  · refine a_iconst (v := (-1)) dX11_odd_15 (by decide) ?_
    exact a_iret dX11_odd_16 rfl rfl (by decide) (by decide)
  · refine a_iload_n dX11_odd_8 rfl 2 rfl ?_
    refine a_cS_Pi (as := [.int p2]) (st := []) dX11_odd_9 (c_X11_isSeason l g h p2) rfl km_X11_isSeason (hm_X11_isSeason) w_methodLink_RainCover_100 w_static_RainCover_isSeason__I_Z ⟨⟨by decide, by decide⟩, ⟨by decide, by decide⟩⟩ (Nat.le_of_ble_eq_true rfl) (fun v3 => ?_)
    refine a_if_ne 17 dX11_odd_12 (by decide) (fun c4 => ?_) (fun c4 => ?_)
    · refine a_iconst (v := (-1)) dX11_odd_15 (by decide) ?_
      exact a_iret dX11_odd_16 rfl rfl (by decide) (by decide)
    · refine a_iconst (v := 0) dX11_odd_17 (by decide) ?_
      refine a_istore_n (lc2 := [(3, .int 0), (0, .ref p0), (1, .int p1), (2, .int p2)]) dX11_odd_18 rfl (by decide) rfl ?_
      refine a_iconst (v := 0) dX11_odd_19 (by decide) ?_
      refine a_istore (lc2 := [(4, .int 0), (3, .int 0), (0, .ref p0), (1, .int p1), (2, .int p2)]) dX11_odd_20 (by decide) rfl ?_
      refine a_pick (lc2 := [(0, .ref p0), (1, .int p1), (2, .int p2), (3, .int 0), (4, .int 0)]) [2, 3, 4, 1, 0] rfl ?_
      exact t_X11_odd_b22 h N N p0 p1 p2 0 0
theorem dX8_hasRoomFor_0 : decode cX8_hasRoomFor 0 = .ok (.aload_n 0, 1) := by decide +kernel
theorem dX8_hasRoomFor_1 : decode cX8_hasRoomFor 1 = .ok (.getfield 13, 3) := by decide +kernel
theorem dX8_hasRoomFor_4 : decode cX8_hasRoomFor 4 = .ok (.iload_n 1, 1) := by decide +kernel
theorem dX8_hasRoomFor_5 : decode cX8_hasRoomFor 5 = .ok (.iadd, 1) := by decide +kernel
theorem dX8_hasRoomFor_6 : decode cX8_hasRoomFor 6 = .ok (.bipush 100, 2) := by decide +kernel
theorem dX8_hasRoomFor_8 : decode cX8_hasRoomFor 8 = .ok (.if_icmp .gt 7, 3) := by decide +kernel
theorem dX8_hasRoomFor_11 : decode cX8_hasRoomFor 11 = .ok (.iconst 1, 1) := by decide +kernel
theorem dX8_hasRoomFor_12 : decode cX8_hasRoomFor 12 = .ok (.goto 4, 3) := by decide +kernel
theorem dX8_hasRoomFor_15 : decode cX8_hasRoomFor 15 = .ok (.iconst 0, 1) := by decide +kernel
theorem dX8_hasRoomFor_16 : decode cX8_hasRoomFor 16 = .ok (.ireturn, 1) := by decide +kernel
abbrev M_X8_hasRoomFor : MI := (RX8, cX8_hasRoomFor, 2, (some .boolean), ({ frames := 0, cells := 0, slots := 0, locals := 0 } : Room), 0, 0, false)
def f_X8_hasRoomFor (h : AH) (p0 : Nat) (p1 : Int32) : Option Int32 := if kd h p0 = 9 + 1 then (xgi h p0 9 1).bind fun v1 => (if 100 < (v1 + p1) then some 0 else some 1) else none
theorem g_X8_hasRoomFor {h : AH} {p0 : Nat} {p1 : Int32} {x : Int32} (e : f_X8_hasRoomFor h p0 p1 = some x) : kd h p0 = 9 + 1 := by
  unfold f_X8_hasRoomFor at e
  by_cases hk : kd h p0 = 9 + 1
  · exact hk
  · rw [if_neg hk] at e
    cases e
theorem km_X8_hasRoomFor : KM yX8_hasRoomFor M_X8_hasRoomFor 1 := ⟨in_tb 433 (by decide +kernel) rfl, in_tb 6 (by decide +kernel) rfl, by decide +kernel, rfl, rfl⟩
theorem hm_X8_hasRoomFor : M_X8_hasRoomFor.2.2.2.2.2.1 = 0 ∧ M_X8_hasRoomFor.2.2.2.2.2.2.1 = 0 := ⟨rfl, rfl⟩
section
variable {l : Launch} {g : GG}
end
set_option maxRecDepth 100000 in
set_option maxHeartbeats 4000000 in
theorem c_X8_hasRoomFor (l : Launch) (g : GG) (h : AH) (p0 : Nat) (p1 : Int32) : CN l g yX8_hasRoomFor M_X8_hasRoomFor false [.ref p0, .int p1] h ((rPi h)) (f_X8_hasRoomFor h p0 p1) := by
  refine CN.of (by decide) rfl (fun hh => by first | rfl | cases hh) (Nat.le_of_ble_eq_true rfl) ?_
  unfold f_X8_hasRoomFor
  refine a_gd (fun hkd => ?_)
  refine a_aload_n dX8_hasRoomFor_0 rfl 0 rfl ?_
  refine a_geti kc9 1 dX8_hasRoomFor_1 (by decide) rfl w_fieldLink_RainCover_Tape_13 (fun v1 => ?_)
  refine a_iload_n dX8_hasRoomFor_4 rfl 1 rfl ?_
  refine a_iadd dX8_hasRoomFor_5 ?_
  refine a_bipush (v := 100) dX8_hasRoomFor_6 (by decide) ?_
  refine a_icmp_gt 15 dX8_hasRoomFor_8 (by decide) (fun c2 => ?_) (fun c2 => ?_)
  · refine a_iconst (v := 0) dX8_hasRoomFor_15 (by decide) ?_
    exact a_zret dX8_hasRoomFor_16 rfl (Or.inl rfl) rfl (by decide) (by decide)
  · refine a_iconst (v := 1) dX8_hasRoomFor_11 (by decide) ?_
    refine a_goto 16 dX8_hasRoomFor_12 (by decide) ?_
    exact a_zret dX8_hasRoomFor_16 rfl (Or.inr rfl) rfl (by decide) (by decide)
theorem dX8_append_0 : decode cX8_append 0 = .ok (.iload_n 2, 1) := by decide +kernel
theorem dX8_append_1 : decode cX8_append 1 = .ok (.iconst 1, 1) := by decide +kernel
theorem dX8_append_2 : decode cX8_append 2 = .ok (.isub, 1) := by decide +kernel
theorem dX8_append_3 : decode cX8_append 3 = .ok (.istore_n 3, 1) := by decide +kernel
theorem dX8_append_4 : decode cX8_append 4 = .ok (.iload_n 3, 1) := by decide +kernel
theorem dX8_append_5 : decode cX8_append 5 = .ok (.ifCond .lt 44, 3) := by decide +kernel
theorem dX8_append_8 : decode cX8_append 8 = .ok (.aload_n 0, 1) := by decide +kernel
theorem dX8_append_9 : decode cX8_append 9 = .ok (.getfield 13, 3) := by decide +kernel
theorem dX8_append_12 : decode cX8_append 12 = .ok (.bipush 100, 2) := by decide +kernel
theorem dX8_append_14 : decode cX8_append 14 = .ok (.if_icmp .ge 35, 3) := by decide +kernel
theorem dX8_append_17 : decode cX8_append 17 = .ok (.aload_n 0, 1) := by decide +kernel
theorem dX8_append_18 : decode cX8_append 18 = .ok (.getfield 9, 3) := by decide +kernel
theorem dX8_append_21 : decode cX8_append 21 = .ok (.aload_n 0, 1) := by decide +kernel
theorem dX8_append_22 : decode cX8_append 22 = .ok (.getfield 13, 3) := by decide +kernel
theorem dX8_append_25 : decode cX8_append 25 = .ok (.iload_n 1, 1) := by decide +kernel
theorem dX8_append_26 : decode cX8_append 26 = .ok (.bipush 8, 2) := by decide +kernel
theorem dX8_append_28 : decode cX8_append 28 = .ok (.iload_n 3, 1) := by decide +kernel
theorem dX8_append_29 : decode cX8_append 29 = .ok (.imul, 1) := by decide +kernel
theorem dX8_append_30 : decode cX8_append 30 = .ok (.ishr, 1) := by decide +kernel
theorem dX8_append_31 : decode cX8_append 31 = .ok (.i2b, 1) := by decide +kernel
theorem dX8_append_32 : decode cX8_append 32 = .ok (.bastore, 1) := by decide +kernel
theorem dX8_append_33 : decode cX8_append 33 = .ok (.aload_n 0, 1) := by decide +kernel
theorem dX8_append_34 : decode cX8_append 34 = .ok (.dup, 1) := by decide +kernel
theorem dX8_append_35 : decode cX8_append 35 = .ok (.getfield 13, 3) := by decide +kernel
theorem dX8_append_38 : decode cX8_append 38 = .ok (.iconst 1, 1) := by decide +kernel
theorem dX8_append_39 : decode cX8_append 39 = .ok (.iadd, 1) := by decide +kernel
theorem dX8_append_40 : decode cX8_append 40 = .ok (.putfield 13, 3) := by decide +kernel
theorem dX8_append_43 : decode cX8_append 43 = .ok (.iinc 3 (-1), 3) := by decide +kernel
theorem dX8_append_46 : decode cX8_append 46 = .ok (.goto (-42), 3) := by decide +kernel
theorem dX8_append_49 : decode cX8_append 49 = .ok (.return_, 1) := by decide +kernel
abbrev M_X8_append : MI := (RX8, cX8_append, 4, none, ({ frames := 0, cells := 0, slots := 0, locals := 0 } : Room), 0, 0, false)
def f_X8_append_b4_body (N : Nat) (K4 : AH → Nat → Int32 → Int32 → Option AH) (h : AH) (x0 : Nat) (x1 : Int32) (x3 : Int32) : Option AH := (if x3 < 0 then some h else (xgi h x0 9 1).bind fun v2 => (if 100 ≤ v2 then some h else (xgr h x0 9 0).bind fun v4 => (xgi h x0 9 1).bind fun v5 => (xbs h v4 v5 ((x1 >>> ((8 * x3) &&& 31)) : Int32).toInt8.toInt32).bind fun h6 => (xgi h6 x0 9 1).bind fun v7 => (xpi h6 x0 9 1 (v7 + 1)).bind fun h8 => K4 h8 x0 x1 (x3 + (-1))))
def f_X8_append_b4 (N : Nat) : Nat → AH → Nat → Int32 → Int32 → Option AH
  | 0, _, _, _, _ => none
  | n + 1, h, x0, x1, x3 => f_X8_append_b4_body N  (f_X8_append_b4 N  n) h x0 x1 x3
def f_X8_append (h0 : AH) (N : Nat) (p0 : Nat) (p1 : Int32) (p2 : Int32) : Option AH := if kd h0 p0 = 9 + 1 then f_X8_append_b4 N N h0 p0 p1 (p2 - 1) else none
theorem g_X8_append {h0 : AH} {N : Nat} {p0 : Nat} {p1 : Int32} {p2 : Int32} {x : AH} (e : f_X8_append h0 N p0 p1 p2 = some x) : kd h0 p0 = 9 + 1 := by
  unfold f_X8_append at e
  by_cases hk : kd h0 p0 = 9 + 1
  · exact hk
  · rw [if_neg hk] at e
    cases e
theorem km_X8_append : KM yX8_append M_X8_append 2 := ⟨in_tb 437 (by decide +kernel) rfl, in_tb 6 (by decide +kernel) rfl, by decide +kernel, rfl, rfl⟩
theorem hm_X8_append : M_X8_append.2.2.2.2.2.1 = 0 ∧ M_X8_append.2.2.2.2.2.2.1 = 0 := ⟨rfl, rfl⟩
section
variable {l : Launch} {g : GG}
set_option maxRecDepth 100000 in
set_option maxHeartbeats 4000000 in
theorem t_X8_append_b4_body (h0 : AH) (N : Nat) (K4 : AH → Nat → Int32 → Int32 → Option AH) (hK4 : ∀ (z : AH) (z0 : Nat) (z1 : Int32) (z2 : Int32), AO l g M_X8_append false h0 4 [(0, .ref z0), (1, .int z1), (3, .int z2)] [] z 0 0 rSv (K4 z z0 z1 z2)) (h : AH) (x0 : Nat) (x1 : Int32) (x3 : Int32) : AO l g M_X8_append false h0 4 [(0, .ref x0), (1, .int x1), (3, .int x3)] [] h 0 0 rSv (f_X8_append_b4_body N K4 h x0 x1 x3) := by
  unfold f_X8_append_b4_body
  refine a_iload_n dX8_append_4 rfl 2 rfl ?_
  refine a_if_lt 49 dX8_append_5 (by decide) (fun c1 => ?_) (fun c1 => ?_)
  · exact a_vret dX8_append_49 rfl rfl (by decide) (by decide)
  · refine a_aload_n dX8_append_8 rfl 0 rfl ?_
    refine a_geti kc9 1 dX8_append_9 (by decide) rfl w_fieldLink_RainCover_Tape_13 (fun v2 => ?_)
    refine a_bipush (v := 100) dX8_append_12 (by decide) ?_
    refine a_icmp_ge 49 dX8_append_14 (by decide) (fun c3 => ?_) (fun c3 => ?_)
    · exact a_vret dX8_append_49 rfl rfl (by decide) (by decide)
    · refine a_aload_n dX8_append_17 rfl 0 rfl ?_
      refine a_getr kc9 0 dX8_append_18 (by decide) rfl w_fieldLink_RainCover_Tape_9 (fun v4 => ?_)
      refine a_aload_n dX8_append_21 rfl 0 rfl ?_
      refine a_geti kc9 1 dX8_append_22 (by decide) rfl w_fieldLink_RainCover_Tape_13 (fun v5 => ?_)
      refine a_iload_n dX8_append_25 rfl 1 rfl ?_
      refine a_bipush (v := 8) dX8_append_26 (by decide) ?_
      refine a_iload_n dX8_append_28 rfl 2 rfl ?_
      refine a_imul dX8_append_29 ?_
      refine a_ishr dX8_append_30 ?_
      refine a_i2b dX8_append_31 ?_
      refine a_bast dX8_append_32 (fun h6 => ?_)
      refine a_aload_n dX8_append_33 rfl 0 rfl ?_
      refine a_dup dX8_append_34 rfl ?_
      refine a_geti kc9 1 dX8_append_35 (by decide) rfl w_fieldLink_RainCover_Tape_13 (fun v7 => ?_)
      refine a_iconst (v := 1) dX8_append_38 (by decide) ?_
      refine a_iadd dX8_append_39 ?_
      refine a_puti kc9 1 dX8_append_40 (by decide) rfl w_fieldLink_RainCover_Tape_13 rfl rfl (fun h8 => ?_)
      refine a_iinc (q := 2) (v := (x3 + (-1))) (lc2 := [(3, .int (x3 + (-1))), (0, .ref x0), (1, .int x1)]) dX8_append_43 rfl rfl (by decide) rfl ?_
      refine a_goto 4 dX8_append_46 (by decide) ?_
      refine a_pick (lc2 := [(0, .ref x0), (1, .int x1), (3, .int (x3 + (-1)))]) [1, 2, 0] rfl ?_
      exact hK4 h8 x0 x1 (x3 + (-1))
set_option maxRecDepth 100000 in
set_option maxHeartbeats 4000000 in
theorem t_X8_append_b4 (h0 : AH) (N : Nat) : ∀ (n : Nat) (h : AH) (x0 : Nat) (x1 : Int32) (x3 : Int32) , AO l g M_X8_append false h0 4 [(0, .ref x0), (1, .int x1), (3, .int x3)] [] h 0 0 rSv (f_X8_append_b4 N  n h x0 x1 x3) := by
  intro n
  induction n with
  | zero => intro h x0 x1 x3; exact a_eq rfl a_none
  | succ n ih => intro h x0 x1 x3; exact a_eq rfl (t_X8_append_b4_body h0 N  (f_X8_append_b4 N  n) ih h x0 x1 x3)
end
set_option maxRecDepth 100000 in
set_option maxHeartbeats 4000000 in
theorem c_X8_append (l : Launch) (g : GG) (h0 : AH) (N : Nat) (p0 : Nat) (p1 : Int32) (p2 : Int32) : CN l g yX8_append M_X8_append false [.ref p0, .int p1, .int p2] h0 rSv (f_X8_append h0 N p0 p1 p2) := by
  refine CN.of (by decide) rfl (fun hh => by first | rfl | cases hh) (Nat.le_of_ble_eq_true rfl) ?_
  unfold f_X8_append
  refine a_gd (fun hkd => ?_)
  refine a_iload_n dX8_append_0 rfl 2 rfl ?_
  refine a_iconst (v := 1) dX8_append_1 (by decide) ?_
  refine a_isub dX8_append_2 ?_
  refine a_istore_n (lc2 := [(3, .int (p2 - 1)), (0, .ref p0), (1, .int p1), (2, .int p2)]) dX8_append_3 rfl (by decide) rfl ?_
  refine a_pick (lc2 := [(0, .ref p0), (1, .int p1), (3, .int (p2 - 1))]) [1, 2, 0] rfl ?_
  exact t_X8_append_b4 h0 N N h0 p0 p1 (p2 - 1)
theorem dX11_feed_0 : decode cX11_feed 0 = .ok (.iload_n 2, 1) := by decide +kernel
theorem dX11_feed_1 : decode cX11_feed 1 = .ok (.iconst 0, 1) := by decide +kernel
theorem dX11_feed_2 : decode cX11_feed 2 = .ok (.iconst 4, 1) := by decide +kernel
theorem dX11_feed_3 : decode cX11_feed 3 = .ok (.invokestatic 120, 3) := by decide +kernel
theorem dX11_feed_6 : decode cX11_feed 6 = .ok (.ifCond .ne 6, 3) := by decide +kernel
theorem dX11_feed_9 : decode cX11_feed 9 = .ok (.bipush (-2), 2) := by decide +kernel
theorem dX11_feed_11 : decode cX11_feed 11 = .ok (.ireturn, 1) := by decide +kernel
theorem dX11_feed_12 : decode cX11_feed 12 = .ok (.aload_n 0, 1) := by decide +kernel
theorem dX11_feed_13 : decode cX11_feed 13 = .ok (.getfield 37, 3) := by decide +kernel
theorem dX11_feed_16 : decode cX11_feed 16 = .ok (.iload_n 2, 1) := by decide +kernel
theorem dX11_feed_17 : decode cX11_feed 17 = .ok (.invokevirtual 198, 3) := by decide +kernel
theorem dX11_feed_20 : decode cX11_feed 20 = .ok (.ifCond .ne 6, 3) := by decide +kernel
theorem dX11_feed_23 : decode cX11_feed 23 = .ok (.bipush (-4), 2) := by decide +kernel
theorem dX11_feed_25 : decode cX11_feed 25 = .ok (.ireturn, 1) := by decide +kernel
theorem dX11_feed_26 : decode cX11_feed 26 = .ok (.aload_n 0, 1) := by decide +kernel
theorem dX11_feed_27 : decode cX11_feed 27 = .ok (.getfield 37, 3) := by decide +kernel
theorem dX11_feed_30 : decode cX11_feed 30 = .ok (.iload_n 1, 1) := by decide +kernel
theorem dX11_feed_31 : decode cX11_feed 31 = .ok (.iload_n 2, 1) := by decide +kernel
theorem dX11_feed_32 : decode cX11_feed 32 = .ok (.invokevirtual 201, 3) := by decide +kernel
theorem dX11_feed_35 : decode cX11_feed 35 = .ok (.aload_n 0, 1) := by decide +kernel
theorem dX11_feed_36 : decode cX11_feed 36 = .ok (.getfield 37, 3) := by decide +kernel
theorem dX11_feed_39 : decode cX11_feed 39 = .ok (.getfield 204, 3) := by decide +kernel
theorem dX11_feed_42 : decode cX11_feed 42 = .ok (.ireturn, 1) := by decide +kernel
abbrev M_X11_feed : MI := (RX11, cX11_feed, 3, (some .int), ({ frames := 1, cells := 0, slots := 0, locals := 23 } : Room), 0, 0, false)
def f_X11_feed (h0 : AH) (N : Nat) (p0 : Nat) (p1 : Int32) (p2 : Int32) : Option (Int32 × AH) := if kd h0 p0 = 12 + 1 then (f_X11_within h0 p2 0 4).bind fun v1 => (if v1 = 0 then some ((-2), h0) else (xgr h0 p0 12 5).bind fun v3 => (f_X8_hasRoomFor h0 v3 p2).bind fun v4 => (if v4 = 0 then some ((-4), h0) else (xgr h0 p0 12 5).bind fun v6 => (f_X8_append h0 N v6 p1 p2).bind fun q7 => (xgr q7 p0 12 5).bind fun v8 => (xgi q7 v8 9 1).bind fun v9 => some (v9, q7))) else none
theorem g_X11_feed {h0 : AH} {N : Nat} {p0 : Nat} {p1 : Int32} {p2 : Int32} {x : (Int32 × AH)} (e : f_X11_feed h0 N p0 p1 p2 = some x) : kd h0 p0 = 12 + 1 := by
  unfold f_X11_feed at e
  by_cases hk : kd h0 p0 = 12 + 1
  · exact hk
  · rw [if_neg hk] at e
    cases e
theorem km_X11_feed : KM yX11_feed M_X11_feed 2 := ⟨in_tb 429 (by decide +kernel) rfl, in_tb 1 (by decide +kernel) rfl, by decide +kernel, rfl, rfl⟩
theorem hm_X11_feed : M_X11_feed.2.2.2.2.2.1 = 0 ∧ M_X11_feed.2.2.2.2.2.2.1 = 0 := ⟨rfl, rfl⟩
section
variable {l : Launch} {g : GG}
end
set_option maxRecDepth 100000 in
set_option maxHeartbeats 4000000 in
theorem c_X11_feed (l : Launch) (g : GG) (h0 : AH) (N : Nat) (p0 : Nat) (p1 : Int32) (p2 : Int32) : CN l g yX11_feed M_X11_feed false [.ref p0, .int p1, .int p2] h0 rSi (f_X11_feed h0 N p0 p1 p2) := by
  refine CN.of (by decide) rfl (fun hh => by first | rfl | cases hh) (Nat.le_of_ble_eq_true rfl) ?_
  unfold f_X11_feed
  refine a_gd (fun hkd => ?_)
  refine a_iload_n dX11_feed_0 rfl 2 rfl ?_
  refine a_iconst (v := 0) dX11_feed_1 (by decide) ?_
  refine a_iconst (v := 4) dX11_feed_2 (by decide) ?_
  refine a_cS_Pi (as := [.int p2, .int 0, .int 4]) (st := []) dX11_feed_3 (c_X11_within l g h0 p2 0 4) rfl km_X11_within (hm_X11_within) w_methodLink_RainCover_120 w_static_RainCover_within__III_Z ⟨⟨by decide, by decide⟩, ⟨by decide, by decide⟩⟩ (Nat.le_of_ble_eq_true rfl) (fun v1 => ?_)
  refine a_if_ne 12 dX11_feed_6 (by decide) (fun c2 => ?_) (fun c2 => ?_)
  · refine a_bipush (v := (-2)) dX11_feed_9 (by decide) ?_
    exact a_iret dX11_feed_11 rfl rfl (by decide) (by decide)
  · refine a_aload_n dX11_feed_12 rfl 0 rfl ?_
    refine a_getr kc12 5 dX11_feed_13 (by decide) rfl w_fieldLink_RainCover_37 (fun v3 => ?_)
    refine a_iload_n dX11_feed_16 rfl 2 rfl ?_
    refine a_cV_Pi (r := v3) (ci := 9) (as := [.int p2]) (st := []) dX11_feed_17 (c_X8_hasRoomFor l g h0 v3 p2) rfl km_X8_hasRoomFor (hm_X8_hasRoomFor) rfl (by decide) rfl (fun _ ee => g_X8_hasRoomFor ee) w_methodLink_RainCover_198 w_instanceMethod_RainCover_Tape_hasRoomFor__I_Z w_selects_RainCover_Tape_RainCover_Tape_hasRoomFor__I_Z_RainCover_Tape_hasRoomFor__I_Z ⟨⟨by decide, by decide⟩, ⟨by decide, by decide⟩⟩ (Nat.le_of_ble_eq_true rfl) (fun v4 => ?_)
    refine a_if_ne 26 dX11_feed_20 (by decide) (fun c5 => ?_) (fun c5 => ?_)
    · refine a_bipush (v := (-4)) dX11_feed_23 (by decide) ?_
      exact a_iret dX11_feed_25 rfl rfl (by decide) (by decide)
    · refine a_aload_n dX11_feed_26 rfl 0 rfl ?_
      refine a_getr kc12 5 dX11_feed_27 (by decide) rfl w_fieldLink_RainCover_37 (fun v6 => ?_)
      refine a_iload_n dX11_feed_30 rfl 1 rfl ?_
      refine a_iload_n dX11_feed_31 rfl 2 rfl ?_
      refine a_cV_Sv (r := v6) (ci := 9) (as := [.int p1, .int p2]) (st := []) dX11_feed_32 (c_X8_append l g h0 N v6 p1 p2) rfl km_X8_append (hm_X8_append) rfl (by decide) rfl (fun _ ee => g_X8_append ee) w_methodLink_RainCover_201 w_instanceMethod_RainCover_Tape_append__II_V w_selects_RainCover_Tape_RainCover_Tape_append__II_V_RainCover_Tape_append__II_V ⟨⟨by decide, by decide⟩, ⟨by decide, by decide⟩⟩ (Nat.le_of_ble_eq_true rfl) (fun q7 => ?_)
      refine a_aload_n dX11_feed_35 rfl 0 rfl ?_
      refine a_getr kc12 5 dX11_feed_36 (by decide) rfl w_fieldLink_RainCover_37 (fun v8 => ?_)
      refine a_geti kc9 1 dX11_feed_39 (by decide) rfl w_fieldLink_RainCover_204 (fun v9 => ?_)
      exact a_iret dX11_feed_42 rfl rfl (by decide) (by decide)
theorem dX10_init_0 : decode cX10_init 0 = .ok (.aload_n 0, 1) := by decide +kernel
theorem dX10_init_1 : decode cX10_init 1 = .ok (.invokespecial 3, 3) := by decide +kernel
theorem dX10_init_4 : decode cX10_init 4 = .ok (.aload_n 0, 1) := by decide +kernel
theorem dX10_init_5 : decode cX10_init 5 = .ok (.iconst 0, 1) := by decide +kernel
theorem dX10_init_6 : decode cX10_init 6 = .ok (.putfield 9, 3) := by decide +kernel
theorem dX10_init_9 : decode cX10_init 9 = .ok (.aload_n 0, 1) := by decide +kernel
theorem dX10_init_10 : decode cX10_init 10 = .ok (.iconst 0, 1) := by decide +kernel
theorem dX10_init_11 : decode cX10_init 11 = .ok (.putfield 15, 3) := by decide +kernel
theorem dX10_init_14 : decode cX10_init 14 = .ok (.aload_n 0, 1) := by decide +kernel
theorem dX10_init_15 : decode cX10_init 15 = .ok (.iconst 4, 1) := by decide +kernel
theorem dX10_init_16 : decode cX10_init 16 = .ok (.newarray .int, 2) := by decide +kernel
theorem dX10_init_18 : decode cX10_init 18 = .ok (.putfield 19, 3) := by decide +kernel
theorem dX10_init_21 : decode cX10_init 21 = .ok (.aload_n 0, 1) := by decide +kernel
theorem dX10_init_22 : decode cX10_init 22 = .ok (.iconst 4, 1) := by decide +kernel
theorem dX10_init_23 : decode cX10_init 23 = .ok (.newarray .int, 2) := by decide +kernel
theorem dX10_init_25 : decode cX10_init 25 = .ok (.putfield 23, 3) := by decide +kernel
theorem dX10_init_28 : decode cX10_init 28 = .ok (.aload_n 0, 1) := by decide +kernel
theorem dX10_init_29 : decode cX10_init 29 = .ok (.iconst 4, 1) := by decide +kernel
theorem dX10_init_30 : decode cX10_init 30 = .ok (.newarray .int, 2) := by decide +kernel
theorem dX10_init_32 : decode cX10_init 32 = .ok (.putfield 26, 3) := by decide +kernel
theorem dX10_init_35 : decode cX10_init 35 = .ok (.aload_n 0, 1) := by decide +kernel
theorem dX10_init_36 : decode cX10_init 36 = .ok (.iconst 4, 1) := by decide +kernel
theorem dX10_init_37 : decode cX10_init 37 = .ok (.newarray .boolean, 2) := by decide +kernel
theorem dX10_init_39 : decode cX10_init 39 = .ok (.putfield 29, 3) := by decide +kernel
theorem dX10_init_42 : decode cX10_init 42 = .ok (.aload_n 0, 1) := by decide +kernel
theorem dX10_init_43 : decode cX10_init 43 = .ok (.iconst 4, 1) := by decide +kernel
theorem dX10_init_44 : decode cX10_init 44 = .ok (.newarray .int, 2) := by decide +kernel
theorem dX10_init_46 : decode cX10_init 46 = .ok (.putfield 33, 3) := by decide +kernel
theorem dX10_init_49 : decode cX10_init 49 = .ok (.return_, 1) := by decide +kernel
abbrev M_X10_init : MI := (RX10, cX10_init, 1, none, ({ frames := 1, cells := 5, slots := 20, locals := 20 } : Room), 5, 20, true)
def f_X10_init (h0 : AH) (p0 : Nat) : Option AH := if kd h0 p0 = 11 + 1 then (xpz h0 p0 11 0 0).bind fun h1 => (xpi h1 p0 11 5 0).bind fun h2 => (gl h2 [p0, p0]).bind fun _ => (xna h2 (p0 + 1) 0 4).bind fun h3 => (xpr h3 p0 11 6 (p0 + 1)).bind fun h4 => (gl h4 [p0, p0]).bind fun _ => (xna h4 (p0 + 2) 0 4).bind fun h5 => (xpr h5 p0 11 7 (p0 + 2)).bind fun h6 => (gl h6 [p0, p0]).bind fun _ => (xna h6 (p0 + 3) 0 4).bind fun h7 => (xpr h7 p0 11 8 (p0 + 3)).bind fun h8 => (gl h8 [p0, p0]).bind fun _ => (xna h8 (p0 + 4) 1 4).bind fun h9 => (xpr h9 p0 11 9 (p0 + 4)).bind fun h10 => (gl h10 [p0, p0]).bind fun _ => (xna h10 (p0 + 5) 0 4).bind fun h11 => (xpr h11 p0 11 10 (p0 + 5)).bind fun h12 => some h12 else none
theorem g_X10_init {h0 : AH} {p0 : Nat} {x : AH} (e : f_X10_init h0 p0 = some x) : kd h0 p0 = 11 + 1 := by
  unfold f_X10_init at e
  by_cases hk : kd h0 p0 = 11 + 1
  · exact hk
  · rw [if_neg hk] at e
    cases e
theorem km_X10_init : KM yX10_init M_X10_init 0 := ⟨in_tb 450 (by decide +kernel) rfl, in_tb 17 (by decide +kernel) rfl, by decide +kernel, rfl, rfl⟩
section
variable {l : Launch} {g : GG}
end
set_option maxRecDepth 100000 in
set_option maxHeartbeats 4000000 in
theorem c_X10_init (l : Launch) (g : GG) (h0 : AH) (p0 : Nat) : CN l g yX10_init M_X10_init true [.ref p0] h0 rSv (f_X10_init h0 p0) := by
  refine CN.of (by decide) rfl (fun hh => by first | rfl | cases hh) (Nat.le_of_ble_eq_true rfl) ?_
  unfold f_X10_init
  refine a_gd (fun hkd => ?_)
  refine a_aload_n dX10_init_0 rfl 0 rfl ?_
  refine a_objI dX10_init_1 w_methodLink_RainCover_Term_3 w_instanceMethod_java_lang_Object__init____V w_code_java_lang_Object__init____V (by decide) (by decide) (Nat.le_of_ble_eq_true rfl) ?_
  refine a_aload_n dX10_init_4 rfl 0 rfl ?_
  refine a_iconst (v := 0) dX10_init_5 (by decide) ?_
  refine a_putz kc11 0 dX10_init_6 (by decide) rfl w_fieldLink_RainCover_Term_9 rfl rfl (fun h1 => ?_)
  refine a_aload_n dX10_init_9 rfl 0 rfl ?_
  refine a_iconst (v := 0) dX10_init_10 (by decide) ?_
  refine a_puti kc11 5 dX10_init_11 (by decide) rfl w_fieldLink_RainCover_Term_15 rfl rfl (fun h2 => ?_)
  refine a_aload_n dX10_init_14 rfl 0 rfl ?_
  refine a_iconst (v := 4) dX10_init_15 (by decide) ?_
  refine a_newa_int (r := (p0 + 1)) [p0, p0] rfl dX10_init_16 w_arrayClass_int (by decide) (by decide) (fun h3 => ?_)
  refine a_widen 1 4 (by decide) (by decide) ?_
  refine a_putrF kc11 6 dX10_init_18 (by decide) rfl w_fieldLink_RainCover_Term_19 (fun _ => ⟨rfl, rfl⟩) rfl rfl rfl (fun h4 => ?_)
  refine a_aload_n dX10_init_21 rfl 0 rfl ?_
  refine a_iconst (v := 4) dX10_init_22 (by decide) ?_
  refine a_newa_int (r := (p0 + 2)) [p0, p0] rfl dX10_init_23 w_arrayClass_int (by decide) (by decide) (fun h5 => ?_)
  refine a_widen 2 8 (by decide) (by decide) ?_
  refine a_putrF kc11 7 dX10_init_25 (by decide) rfl w_fieldLink_RainCover_Term_23 (fun _ => ⟨rfl, rfl⟩) rfl rfl rfl (fun h6 => ?_)
  refine a_aload_n dX10_init_28 rfl 0 rfl ?_
  refine a_iconst (v := 4) dX10_init_29 (by decide) ?_
  refine a_newa_int (r := (p0 + 3)) [p0, p0] rfl dX10_init_30 w_arrayClass_int (by decide) (by decide) (fun h7 => ?_)
  refine a_widen 3 12 (by decide) (by decide) ?_
  refine a_putrF kc11 8 dX10_init_32 (by decide) rfl w_fieldLink_RainCover_Term_26 (fun _ => ⟨rfl, rfl⟩) rfl rfl rfl (fun h8 => ?_)
  refine a_aload_n dX10_init_35 rfl 0 rfl ?_
  refine a_iconst (v := 4) dX10_init_36 (by decide) ?_
  refine a_newa_boolean (r := (p0 + 4)) [p0, p0] rfl dX10_init_37 w_arrayClass_boolean (by decide) (by decide) (fun h9 => ?_)
  refine a_widen 4 16 (by decide) (by decide) ?_
  refine a_putrF kc11 9 dX10_init_39 (by decide) rfl w_fieldLink_RainCover_Term_29 (fun _ => ⟨rfl, rfl⟩) rfl rfl rfl (fun h10 => ?_)
  refine a_aload_n dX10_init_42 rfl 0 rfl ?_
  refine a_iconst (v := 4) dX10_init_43 (by decide) ?_
  refine a_newa_int (r := (p0 + 5)) [p0, p0] rfl dX10_init_44 w_arrayClass_int (by decide) (by decide) (fun h11 => ?_)
  refine a_widen 5 20 (by decide) (by decide) ?_
  refine a_putrF kc11 10 dX10_init_46 (by decide) rfl w_fieldLink_RainCover_Term_33 (fun _ => ⟨rfl, rfl⟩) rfl rfl rfl (fun h12 => ?_)
  exact a_vret dX10_init_49 rfl rfl (by decide) (by decide)
theorem dX8_next_0 : decode cX8_next 0 = .ok (.aload_n 0, 1) := by decide +kernel
theorem dX8_next_1 : decode cX8_next 1 = .ok (.getfield 17, 3) := by decide +kernel
theorem dX8_next_4 : decode cX8_next 4 = .ok (.aload_n 0, 1) := by decide +kernel
theorem dX8_next_5 : decode cX8_next 5 = .ok (.getfield 13, 3) := by decide +kernel
theorem dX8_next_8 : decode cX8_next 8 = .ok (.if_icmp .ge 15, 3) := by decide +kernel
theorem dX8_next_11 : decode cX8_next 11 = .ok (.aload_n 0, 1) := by decide +kernel
theorem dX8_next_12 : decode cX8_next 12 = .ok (.getfield 9, 3) := by decide +kernel
theorem dX8_next_15 : decode cX8_next 15 = .ok (.aload_n 0, 1) := by decide +kernel
theorem dX8_next_16 : decode cX8_next 16 = .ok (.getfield 17, 3) := by decide +kernel
theorem dX8_next_19 : decode cX8_next 19 = .ok (.baload, 1) := by decide +kernel
theorem dX8_next_20 : decode cX8_next 20 = .ok (.goto 4, 3) := by decide +kernel
theorem dX8_next_23 : decode cX8_next 23 = .ok (.iconst (-1), 1) := by decide +kernel
theorem dX8_next_24 : decode cX8_next 24 = .ok (.ireturn, 1) := by decide +kernel
abbrev M_X8_next : MI := (RX8, cX8_next, 1, (some .int), ({ frames := 0, cells := 0, slots := 0, locals := 0 } : Room), 0, 0, false)
def f_X8_next (h : AH) (p0 : Nat) : Option Int32 := if kd h p0 = 9 + 1 then (xgi h p0 9 2).bind fun v1 => (xgi h p0 9 1).bind fun v2 => (if v2 ≤ v1 then some (-1) else (xgr h p0 9 0).bind fun v4 => (xgi h p0 9 2).bind fun v5 => (xba h v4 v5).bind fun v6 => some v6) else none
theorem g_X8_next {h : AH} {p0 : Nat} {x : Int32} (e : f_X8_next h p0 = some x) : kd h p0 = 9 + 1 := by
  unfold f_X8_next at e
  by_cases hk : kd h p0 = 9 + 1
  · exact hk
  · rw [if_neg hk] at e
    cases e
theorem km_X8_next : KM yX8_next M_X8_next 0 := ⟨in_tb 501 (by decide +kernel) rfl, in_tb 6 (by decide +kernel) rfl, by decide +kernel, rfl, rfl⟩
theorem hm_X8_next : M_X8_next.2.2.2.2.2.1 = 0 ∧ M_X8_next.2.2.2.2.2.2.1 = 0 := ⟨rfl, rfl⟩
section
variable {l : Launch} {g : GG}
end
set_option maxRecDepth 100000 in
set_option maxHeartbeats 4000000 in
theorem c_X8_next (l : Launch) (g : GG) (h : AH) (p0 : Nat) : CN l g yX8_next M_X8_next false [.ref p0] h ((rPi h)) (f_X8_next h p0) := by
  refine CN.of (by decide) rfl (fun hh => by first | rfl | cases hh) (Nat.le_of_ble_eq_true rfl) ?_
  unfold f_X8_next
  refine a_gd (fun hkd => ?_)
  refine a_aload_n dX8_next_0 rfl 0 rfl ?_
  refine a_geti kc9 2 dX8_next_1 (by decide) rfl w_fieldLink_RainCover_Tape_17 (fun v1 => ?_)
  refine a_aload_n dX8_next_4 rfl 0 rfl ?_
  refine a_geti kc9 1 dX8_next_5 (by decide) rfl w_fieldLink_RainCover_Tape_13 (fun v2 => ?_)
  refine a_icmp_ge 23 dX8_next_8 (by decide) (fun c3 => ?_) (fun c3 => ?_)
  · refine a_iconst (v := (-1)) dX8_next_23 (by decide) ?_
    exact a_iret dX8_next_24 rfl rfl (by decide) (by decide)
  · refine a_aload_n dX8_next_11 rfl 0 rfl ?_
    refine a_getr kc9 0 dX8_next_12 (by decide) rfl w_fieldLink_RainCover_Tape_9 (fun v4 => ?_)
    refine a_aload_n dX8_next_15 rfl 0 rfl ?_
    refine a_geti kc9 2 dX8_next_16 (by decide) rfl w_fieldLink_RainCover_Tape_17 (fun v5 => ?_)
    refine a_bald dX8_next_19 (fun v6 => ?_)
    refine a_goto 24 dX8_next_20 (by decide) ?_
    exact a_iret dX8_next_24 rfl rfl (by decide) (by decide)
