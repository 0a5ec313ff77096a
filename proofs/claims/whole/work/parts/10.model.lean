theorem dX12_in_0 : decode cX12_in 0 = .ok (.iload_n 0, 1) := by decide +kernel
theorem dX12_in_1 : decode cX12_in 1 = .ok (.iload_n 1, 1) := by decide +kernel
theorem dX12_in_2 : decode cX12_in 2 = .ok (.if_icmp .lt 12, 3) := by decide +kernel
theorem dX12_in_5 : decode cX12_in 5 = .ok (.iload_n 0, 1) := by decide +kernel
theorem dX12_in_6 : decode cX12_in 6 = .ok (.iload_n 2, 1) := by decide +kernel
theorem dX12_in_7 : decode cX12_in 7 = .ok (.if_icmp .gt 7, 3) := by decide +kernel
theorem dX12_in_10 : decode cX12_in 10 = .ok (.iconst 1, 1) := by decide +kernel
theorem dX12_in_11 : decode cX12_in 11 = .ok (.goto 4, 3) := by decide +kernel
theorem dX12_in_14 : decode cX12_in 14 = .ok (.iconst 0, 1) := by decide +kernel
theorem dX12_in_15 : decode cX12_in 15 = .ok (.ireturn, 1) := by decide +kernel
abbrev M_X12_in : MI := (RX12, cX12_in, 3, (some .boolean), ({ frames := 0, cells := 0, slots := 0, locals := 0 } : Room), 0, 0, false)
def f_X12_in (h : AH) (p0 : Int32) (p1 : Int32) (p2 : Int32) : Option Int32 := (if p0 < p1 then some 0 else (if p2 < p0 then some 0 else some 1))
theorem km_X12_in : KM yX12_in M_X12_in 3 := ⟨in_tb 1437 (by decide +kernel) rfl, in_tb 9 (by decide +kernel) rfl, by decide +kernel, rfl, rfl⟩
theorem hm_X12_in : M_X12_in.2.2.2.2.2.1 = 0 ∧ M_X12_in.2.2.2.2.2.2.1 = 0 := ⟨rfl, rfl⟩
section
variable {l : Launch} {g : GG}
end
set_option maxRecDepth 100000 in
set_option maxHeartbeats 4000000 in
theorem c_X12_in (l : Launch) (g : GG) (h : AH) (p0 : Int32) (p1 : Int32) (p2 : Int32) : CN l g yX12_in M_X12_in false [.int p0, .int p1, .int p2] h ((rPi h)) (f_X12_in h p0 p1 p2) := by
  refine CN.of (by decide) rfl (fun hh => by first | rfl | cases hh) (Nat.le_of_ble_eq_true rfl) ?_
  unfold f_X12_in
  refine a_iload_n dX12_in_0 rfl 0 rfl ?_
  refine a_iload_n dX12_in_1 rfl 1 rfl ?_
  refine a_icmp_lt 14 dX12_in_2 (by decide) (fun c1 => ?_) (fun c1 => ?_)
  · refine a_iconst (v := 0) dX12_in_14 (by decide) ?_
    exact a_zret dX12_in_15 rfl (Or.inl rfl) rfl (by decide) (by decide)
  · refine a_iload_n dX12_in_5 rfl 0 rfl ?_
    refine a_iload_n dX12_in_6 rfl 2 rfl ?_
    refine a_icmp_gt 14 dX12_in_7 (by decide) (fun c2 => ?_) (fun c2 => ?_)
    · refine a_iconst (v := 0) dX12_in_14 (by decide) ?_
      exact a_zret dX12_in_15 rfl (Or.inl rfl) rfl (by decide) (by decide)
    · refine a_iconst (v := 1) dX12_in_10 (by decide) ?_
      refine a_goto 15 dX12_in_11 (by decide) ?_
      exact a_zret dX12_in_15 rfl (Or.inr rfl) rfl (by decide) (by decide)
theorem dX12_isPlace_0 : decode cX12_isPlace 0 = .ok (.iload_n 0, 1) := by decide +kernel
theorem dX12_isPlace_1 : decode cX12_isPlace 1 = .ok (.iconst 0, 1) := by decide +kernel
theorem dX12_isPlace_2 : decode cX12_isPlace 2 = .ok (.bipush 99, 2) := by decide +kernel
theorem dX12_isPlace_4 : decode cX12_isPlace 4 = .ok (.invokestatic 204, 3) := by decide +kernel
theorem dX12_isPlace_7 : decode cX12_isPlace 7 = .ok (.ifCond .eq 17, 3) := by decide +kernel
theorem dX12_isPlace_10 : decode cX12_isPlace 10 = .ok (.iload_n 1, 1) := by decide +kernel
theorem dX12_isPlace_11 : decode cX12_isPlace 11 = .ok (.iconst 0, 1) := by decide +kernel
theorem dX12_isPlace_12 : decode cX12_isPlace 12 = .ok (.bipush 99, 2) := by decide +kernel
theorem dX12_isPlace_14 : decode cX12_isPlace 14 = .ok (.invokestatic 204, 3) := by decide +kernel
theorem dX12_isPlace_17 : decode cX12_isPlace 17 = .ok (.ifCond .eq 7, 3) := by decide +kernel
theorem dX12_isPlace_20 : decode cX12_isPlace 20 = .ok (.iconst 1, 1) := by decide +kernel
theorem dX12_isPlace_21 : decode cX12_isPlace 21 = .ok (.goto 4, 3) := by decide +kernel
theorem dX12_isPlace_24 : decode cX12_isPlace 24 = .ok (.iconst 0, 1) := by decide +kernel
theorem dX12_isPlace_25 : decode cX12_isPlace 25 = .ok (.ireturn, 1) := by decide +kernel
abbrev M_X12_isPlace : MI := (RX12, cX12_isPlace, 2, (some .boolean), ({ frames := 1, cells := 0, slots := 0, locals := 22 } : Room), 0, 0, false)
def f_X12_isPlace (h : AH) (p0 : Int32) (p1 : Int32) : Option Int32 := (f_X12_in h p0 0 99).bind fun v1 => (if v1 = 0 then some 0 else (f_X12_in h p1 0 99).bind fun v3 => (if v3 = 0 then some 0 else some 1))
theorem km_X12_isPlace : KM yX12_isPlace M_X12_isPlace 2 := ⟨in_tb 1434 (by decide +kernel) rfl, in_tb 9 (by decide +kernel) rfl, by decide +kernel, rfl, rfl⟩
theorem hm_X12_isPlace : M_X12_isPlace.2.2.2.2.2.1 = 0 ∧ M_X12_isPlace.2.2.2.2.2.2.1 = 0 := ⟨rfl, rfl⟩
section
variable {l : Launch} {g : GG}
end
set_option maxRecDepth 100000 in
set_option maxHeartbeats 4000000 in
theorem c_X12_isPlace (l : Launch) (g : GG) (h : AH) (p0 : Int32) (p1 : Int32) : CN l g yX12_isPlace M_X12_isPlace false [.int p0, .int p1] h ((rPi h)) (f_X12_isPlace h p0 p1) := by
  refine CN.of (by decide) rfl (fun hh => by first | rfl | cases hh) (Nat.le_of_ble_eq_true rfl) ?_
  unfold f_X12_isPlace
  refine a_iload_n dX12_isPlace_0 rfl 0 rfl ?_
  refine a_iconst (v := 0) dX12_isPlace_1 (by decide) ?_
  refine a_bipush (v := 99) dX12_isPlace_2 (by decide) ?_
  refine a_cS_Pi (as := [.int p0, .int 0, .int 99]) (st := []) dX12_isPlace_4 (c_X12_in l g h p0 0 99) rfl km_X12_in (hm_X12_in) w_methodLink_RainCoverModel_204 w_static_RainCoverModel_in__III_Z ⟨⟨by decide, by decide⟩, ⟨by decide, by decide⟩⟩ (Nat.le_of_ble_eq_true rfl) (fun v1 => ?_)
  refine a_if_eq 24 dX12_isPlace_7 (by decide) (fun c2 => ?_) (fun c2 => ?_)
  · refine a_iconst (v := 0) dX12_isPlace_24 (by decide) ?_
    exact a_zret dX12_isPlace_25 rfl (Or.inl rfl) rfl (by decide) (by decide)
  · refine a_iload_n dX12_isPlace_10 rfl 1 rfl ?_
    refine a_iconst (v := 0) dX12_isPlace_11 (by decide) ?_
    refine a_bipush (v := 99) dX12_isPlace_12 (by decide) ?_
    refine a_cS_Pi (as := [.int p1, .int 0, .int 99]) (st := []) dX12_isPlace_14 (c_X12_in l g h p1 0 99) rfl km_X12_in (hm_X12_in) w_methodLink_RainCoverModel_204 w_static_RainCoverModel_in__III_Z ⟨⟨by decide, by decide⟩, ⟨by decide, by decide⟩⟩ (Nat.le_of_ble_eq_true rfl) (fun v3 => ?_)
    refine a_if_eq 24 dX12_isPlace_17 (by decide) (fun c4 => ?_) (fun c4 => ?_)
    · refine a_iconst (v := 0) dX12_isPlace_24 (by decide) ?_
      exact a_zret dX12_isPlace_25 rfl (Or.inl rfl) rfl (by decide) (by decide)
    · refine a_iconst (v := 1) dX12_isPlace_20 (by decide) ?_
      refine a_goto 25 dX12_isPlace_21 (by decide) ?_
      exact a_zret dX12_isPlace_25 rfl (Or.inr rfl) rfl (by decide) (by decide)
theorem dX12_isSeason_0 : decode cX12_isSeason 0 = .ok (.iload_n 0, 1) := by decide +kernel
theorem dX12_isSeason_1 : decode cX12_isSeason 1 = .ok (.iconst 0, 1) := by decide +kernel
theorem dX12_isSeason_2 : decode cX12_isSeason 2 = .ok (.bipush 15, 2) := by decide +kernel
theorem dX12_isSeason_4 : decode cX12_isSeason 4 = .ok (.invokestatic 204, 3) := by decide +kernel
theorem dX12_isSeason_7 : decode cX12_isSeason 7 = .ok (.ireturn, 1) := by decide +kernel
abbrev M_X12_isSeason : MI := (RX12, cX12_isSeason, 1, (some .boolean), ({ frames := 1, cells := 0, slots := 0, locals := 22 } : Room), 0, 0, false)
def f_X12_isSeason (h : AH) (p0 : Int32) : Option Int32 := (f_X12_in h p0 0 15).bind fun v1 => (if v1 = 0 ∨ v1 = 1 then some v1 else none)
theorem km_X12_isSeason : KM yX12_isSeason M_X12_isSeason 1 := ⟨in_tb 1440 (by decide +kernel) rfl, in_tb 9 (by decide +kernel) rfl, by decide +kernel, rfl, rfl⟩
theorem hm_X12_isSeason : M_X12_isSeason.2.2.2.2.2.1 = 0 ∧ M_X12_isSeason.2.2.2.2.2.2.1 = 0 := ⟨rfl, rfl⟩
section
variable {l : Launch} {g : GG}
end
set_option maxRecDepth 100000 in
set_option maxHeartbeats 4000000 in
theorem c_X12_isSeason (l : Launch) (g : GG) (h : AH) (p0 : Int32) : CN l g yX12_isSeason M_X12_isSeason false [.int p0] h ((rPi h)) (f_X12_isSeason h p0) := by
  refine CN.of (by decide) rfl (fun hh => by first | rfl | cases hh) (Nat.le_of_ble_eq_true rfl) ?_
  unfold f_X12_isSeason
  refine a_iload_n dX12_isSeason_0 rfl 0 rfl ?_
  refine a_iconst (v := 0) dX12_isSeason_1 (by decide) ?_
  refine a_bipush (v := 15) dX12_isSeason_2 (by decide) ?_
  refine a_cS_Pi (as := [.int p0, .int 0, .int 15]) (st := []) dX12_isSeason_4 (c_X12_in l g h p0 0 15) rfl km_X12_in (hm_X12_in) w_methodLink_RainCoverModel_204 w_static_RainCoverModel_in__III_Z ⟨⟨by decide, by decide⟩, ⟨by decide, by decide⟩⟩ (Nat.le_of_ble_eq_true rfl) (fun v1 => ?_)
  exact a_gd (fun c2 => a_zret dX12_isSeason_7 rfl c2 rfl (by decide) (by decide))
theorem dX12_isWeek_0 : decode cX12_isWeek 0 = .ok (.iload_n 0, 1) := by decide +kernel
theorem dX12_isWeek_1 : decode cX12_isWeek 1 = .ok (.iconst 0, 1) := by decide +kernel
theorem dX12_isWeek_2 : decode cX12_isWeek 2 = .ok (.bipush 11, 2) := by decide +kernel
theorem dX12_isWeek_4 : decode cX12_isWeek 4 = .ok (.invokestatic 204, 3) := by decide +kernel
theorem dX12_isWeek_7 : decode cX12_isWeek 7 = .ok (.ireturn, 1) := by decide +kernel
abbrev M_X12_isWeek : MI := (RX12, cX12_isWeek, 1, (some .boolean), ({ frames := 1, cells := 0, slots := 0, locals := 22 } : Room), 0, 0, false)
def f_X12_isWeek (h : AH) (p0 : Int32) : Option Int32 := (f_X12_in h p0 0 11).bind fun v1 => (if v1 = 0 ∨ v1 = 1 then some v1 else none)
theorem km_X12_isWeek : KM yX12_isWeek M_X12_isWeek 1 := ⟨in_tb 1459 (by decide +kernel) rfl, in_tb 9 (by decide +kernel) rfl, by decide +kernel, rfl, rfl⟩
theorem hm_X12_isWeek : M_X12_isWeek.2.2.2.2.2.1 = 0 ∧ M_X12_isWeek.2.2.2.2.2.2.1 = 0 := ⟨rfl, rfl⟩
section
variable {l : Launch} {g : GG}
end
set_option maxRecDepth 100000 in
set_option maxHeartbeats 4000000 in
theorem c_X12_isWeek (l : Launch) (g : GG) (h : AH) (p0 : Int32) : CN l g yX12_isWeek M_X12_isWeek false [.int p0] h ((rPi h)) (f_X12_isWeek h p0) := by
  refine CN.of (by decide) rfl (fun hh => by first | rfl | cases hh) (Nat.le_of_ble_eq_true rfl) ?_
  unfold f_X12_isWeek
  refine a_iload_n dX12_isWeek_0 rfl 0 rfl ?_
  refine a_iconst (v := 0) dX12_isWeek_1 (by decide) ?_
  refine a_bipush (v := 11) dX12_isWeek_2 (by decide) ?_
  refine a_cS_Pi (as := [.int p0, .int 0, .int 11]) (st := []) dX12_isWeek_4 (c_X12_in l g h p0 0 11) rfl km_X12_in (hm_X12_in) w_methodLink_RainCoverModel_204 w_static_RainCoverModel_in__III_Z ⟨⟨by decide, by decide⟩, ⟨by decide, by decide⟩⟩ (Nat.le_of_ble_eq_true rfl) (fun v1 => ?_)
  exact a_gd (fun c2 => a_zret dX12_isWeek_7 rfl c2 rfl (by decide) (by decide))
theorem dX12_isGauge_0 : decode cX12_isGauge 0 = .ok (.iload_n 1, 1) := by decide +kernel
theorem dX12_isGauge_1 : decode cX12_isGauge 1 = .ok (.iconst 0, 1) := by decide +kernel
theorem dX12_isGauge_2 : decode cX12_isGauge 2 = .ok (.aload_n 0, 1) := by decide +kernel
theorem dX12_isGauge_3 : decode cX12_isGauge 3 = .ok (.getfield 208, 3) := by decide +kernel
theorem dX12_isGauge_6 : decode cX12_isGauge 6 = .ok (.iconst 1, 1) := by decide +kernel
theorem dX12_isGauge_7 : decode cX12_isGauge 7 = .ok (.isub, 1) := by decide +kernel
theorem dX12_isGauge_8 : decode cX12_isGauge 8 = .ok (.invokestatic 204, 3) := by decide +kernel
theorem dX12_isGauge_11 : decode cX12_isGauge 11 = .ok (.ireturn, 1) := by decide +kernel
abbrev M_X12_isGauge : MI := (RX12, cX12_isGauge, 2, (some .boolean), ({ frames := 1, cells := 0, slots := 0, locals := 22 } : Room), 0, 0, false)
def f_X12_isGauge (h : AH) (p0 : Nat) (p1 : Int32) : Option Int32 := if kd h p0 = 13 + 1 then (xgi h p0 13 0).bind fun v1 => (f_X12_in h p1 0 (v1 - 1)).bind fun v2 => (if v2 = 0 ∨ v2 = 1 then some v2 else none) else none
theorem g_X12_isGauge {h : AH} {p0 : Nat} {p1 : Int32} {x : Int32} (e : f_X12_isGauge h p0 p1 = some x) : kd h p0 = 13 + 1 := by
  unfold f_X12_isGauge at e
  by_cases hk : kd h p0 = 13 + 1
  · exact hk
  · rw [if_neg hk] at e
    cases e
theorem km_X12_isGauge : KM yX12_isGauge M_X12_isGauge 1 := ⟨in_tb 1448 (by decide +kernel) rfl, in_tb 9 (by decide +kernel) rfl, by decide +kernel, rfl, rfl⟩
theorem hm_X12_isGauge : M_X12_isGauge.2.2.2.2.2.1 = 0 ∧ M_X12_isGauge.2.2.2.2.2.2.1 = 0 := ⟨rfl, rfl⟩
section
variable {l : Launch} {g : GG}
end
set_option maxRecDepth 100000 in
set_option maxHeartbeats 4000000 in
theorem c_X12_isGauge (l : Launch) (g : GG) (h : AH) (p0 : Nat) (p1 : Int32) : CN l g yX12_isGauge M_X12_isGauge false [.ref p0, .int p1] h ((rPi h)) (f_X12_isGauge h p0 p1) := by
  refine CN.of (by decide) rfl (fun hh => by first | rfl | cases hh) (Nat.le_of_ble_eq_true rfl) ?_
  unfold f_X12_isGauge
  refine a_gd (fun hkd => ?_)
  refine a_iload_n dX12_isGauge_0 rfl 1 rfl ?_
  refine a_iconst (v := 0) dX12_isGauge_1 (by decide) ?_
  refine a_aload_n dX12_isGauge_2 rfl 0 rfl ?_
  refine a_geti kc13 0 dX12_isGauge_3 (by decide) rfl w_fieldLink_RainCoverModel_208 (fun v1 => ?_)
  refine a_iconst (v := 1) dX12_isGauge_6 (by decide) ?_
  refine a_isub dX12_isGauge_7 ?_
  refine a_cS_Pi (as := [.int p1, .int 0, .int (v1 - 1)]) (st := []) dX12_isGauge_8 (c_X12_in l g h p1 0 (v1 - 1)) rfl km_X12_in (hm_X12_in) w_methodLink_RainCoverModel_204 w_static_RainCoverModel_in__III_Z ⟨⟨by decide, by decide⟩, ⟨by decide, by decide⟩⟩ (Nat.le_of_ble_eq_true rfl) (fun v2 => ?_)
  exact a_gd (fun c3 => a_zret dX12_isGauge_11 rfl c3 rfl (by decide) (by decide))
theorem dX12_isTerm_0 : decode cX12_isTerm 0 = .ok (.iload_n 1, 1) := by decide +kernel
theorem dX12_isTerm_1 : decode cX12_isTerm 1 = .ok (.iconst 0, 1) := by decide +kernel
theorem dX12_isTerm_2 : decode cX12_isTerm 2 = .ok (.aload_n 0, 1) := by decide +kernel
theorem dX12_isTerm_3 : decode cX12_isTerm 3 = .ok (.getfield 211, 3) := by decide +kernel
theorem dX12_isTerm_6 : decode cX12_isTerm 6 = .ok (.iconst 1, 1) := by decide +kernel
theorem dX12_isTerm_7 : decode cX12_isTerm 7 = .ok (.isub, 1) := by decide +kernel
theorem dX12_isTerm_8 : decode cX12_isTerm 8 = .ok (.invokestatic 204, 3) := by decide +kernel
theorem dX12_isTerm_11 : decode cX12_isTerm 11 = .ok (.ireturn, 1) := by decide +kernel
abbrev M_X12_isTerm : MI := (RX12, cX12_isTerm, 2, (some .boolean), ({ frames := 1, cells := 0, slots := 0, locals := 22 } : Room), 0, 0, false)
def f_X12_isTerm (h : AH) (p0 : Nat) (p1 : Int32) : Option Int32 := if kd h p0 = 13 + 1 then (xgi h p0 13 13).bind fun v1 => (f_X12_in h p1 0 (v1 - 1)).bind fun v2 => (if v2 = 0 ∨ v2 = 1 then some v2 else none) else none
theorem g_X12_isTerm {h : AH} {p0 : Nat} {p1 : Int32} {x : Int32} (e : f_X12_isTerm h p0 p1 = some x) : kd h p0 = 13 + 1 := by
  unfold f_X12_isTerm at e
  by_cases hk : kd h p0 = 13 + 1
  · exact hk
  · rw [if_neg hk] at e
    cases e
theorem km_X12_isTerm : KM yX12_isTerm M_X12_isTerm 1 := ⟨in_tb 1576 (by decide +kernel) rfl, in_tb 9 (by decide +kernel) rfl, by decide +kernel, rfl, rfl⟩
theorem hm_X12_isTerm : M_X12_isTerm.2.2.2.2.2.1 = 0 ∧ M_X12_isTerm.2.2.2.2.2.2.1 = 0 := ⟨rfl, rfl⟩
section
variable {l : Launch} {g : GG}
end
set_option maxRecDepth 100000 in
set_option maxHeartbeats 4000000 in
theorem c_X12_isTerm (l : Launch) (g : GG) (h : AH) (p0 : Nat) (p1 : Int32) : CN l g yX12_isTerm M_X12_isTerm false [.ref p0, .int p1] h ((rPi h)) (f_X12_isTerm h p0 p1) := by
  refine CN.of (by decide) rfl (fun hh => by first | rfl | cases hh) (Nat.le_of_ble_eq_true rfl) ?_
  unfold f_X12_isTerm
  refine a_gd (fun hkd => ?_)
  refine a_iload_n dX12_isTerm_0 rfl 1 rfl ?_
  refine a_iconst (v := 0) dX12_isTerm_1 (by decide) ?_
  refine a_aload_n dX12_isTerm_2 rfl 0 rfl ?_
  refine a_geti kc13 13 dX12_isTerm_3 (by decide) rfl w_fieldLink_RainCoverModel_211 (fun v1 => ?_)
  refine a_iconst (v := 1) dX12_isTerm_6 (by decide) ?_
  refine a_isub dX12_isTerm_7 ?_
  refine a_cS_Pi (as := [.int p1, .int 0, .int (v1 - 1)]) (st := []) dX12_isTerm_8 (c_X12_in l g h p1 0 (v1 - 1)) rfl km_X12_in (hm_X12_in) w_methodLink_RainCoverModel_204 w_static_RainCoverModel_in__III_Z ⟨⟨by decide, by decide⟩, ⟨by decide, by decide⟩⟩ (Nat.le_of_ble_eq_true rfl) (fun v2 => ?_)
  exact a_gd (fun c3 => a_zret dX12_isTerm_11 rfl c3 rfl (by decide) (by decide))
theorem dX12_isFarm_0 : decode cX12_isFarm 0 = .ok (.iload_n 1, 1) := by decide +kernel
theorem dX12_isFarm_1 : decode cX12_isFarm 1 = .ok (.iconst 0, 1) := by decide +kernel
theorem dX12_isFarm_2 : decode cX12_isFarm 2 = .ok (.aload_n 0, 1) := by decide +kernel
theorem dX12_isFarm_3 : decode cX12_isFarm 3 = .ok (.getfield 214, 3) := by decide +kernel
theorem dX12_isFarm_6 : decode cX12_isFarm 6 = .ok (.iconst 1, 1) := by decide +kernel
theorem dX12_isFarm_7 : decode cX12_isFarm 7 = .ok (.isub, 1) := by decide +kernel
theorem dX12_isFarm_8 : decode cX12_isFarm 8 = .ok (.invokestatic 204, 3) := by decide +kernel
theorem dX12_isFarm_11 : decode cX12_isFarm 11 = .ok (.ireturn, 1) := by decide +kernel
abbrev M_X12_isFarm : MI := (RX12, cX12_isFarm, 2, (some .boolean), ({ frames := 1, cells := 0, slots := 0, locals := 22 } : Room), 0, 0, false)
def f_X12_isFarm (h : AH) (p0 : Nat) (p1 : Int32) : Option Int32 := if kd h p0 = 13 + 1 then (xgi h p0 13 26).bind fun v1 => (f_X12_in h p1 0 (v1 - 1)).bind fun v2 => (if v2 = 0 ∨ v2 = 1 then some v2 else none) else none
theorem g_X12_isFarm {h : AH} {p0 : Nat} {p1 : Int32} {x : Int32} (e : f_X12_isFarm h p0 p1 = some x) : kd h p0 = 13 + 1 := by
  unfold f_X12_isFarm at e
  by_cases hk : kd h p0 = 13 + 1
  · exact hk
  · rw [if_neg hk] at e
    cases e
theorem km_X12_isFarm : KM yX12_isFarm M_X12_isFarm 1 := ⟨in_tb 1616 (by decide +kernel) rfl, in_tb 9 (by decide +kernel) rfl, by decide +kernel, rfl, rfl⟩
theorem hm_X12_isFarm : M_X12_isFarm.2.2.2.2.2.1 = 0 ∧ M_X12_isFarm.2.2.2.2.2.2.1 = 0 := ⟨rfl, rfl⟩
section
variable {l : Launch} {g : GG}
end
set_option maxRecDepth 100000 in
set_option maxHeartbeats 4000000 in
theorem c_X12_isFarm (l : Launch) (g : GG) (h : AH) (p0 : Nat) (p1 : Int32) : CN l g yX12_isFarm M_X12_isFarm false [.ref p0, .int p1] h ((rPi h)) (f_X12_isFarm h p0 p1) := by
  refine CN.of (by decide) rfl (fun hh => by first | rfl | cases hh) (Nat.le_of_ble_eq_true rfl) ?_
  unfold f_X12_isFarm
  refine a_gd (fun hkd => ?_)
  refine a_iload_n dX12_isFarm_0 rfl 1 rfl ?_
  refine a_iconst (v := 0) dX12_isFarm_1 (by decide) ?_
  refine a_aload_n dX12_isFarm_2 rfl 0 rfl ?_
  refine a_geti kc13 26 dX12_isFarm_3 (by decide) rfl w_fieldLink_RainCoverModel_214 (fun v1 => ?_)
  refine a_iconst (v := 1) dX12_isFarm_6 (by decide) ?_
  refine a_isub dX12_isFarm_7 ?_
  refine a_cS_Pi (as := [.int p1, .int 0, .int (v1 - 1)]) (st := []) dX12_isFarm_8 (c_X12_in l g h p1 0 (v1 - 1)) rfl km_X12_in (hm_X12_in) w_methodLink_RainCoverModel_204 w_static_RainCoverModel_in__III_Z ⟨⟨by decide, by decide⟩, ⟨by decide, by decide⟩⟩ (Nat.le_of_ble_eq_true rfl) (fun v2 => ?_)
  exact a_gd (fun c3 => a_zret dX12_isFarm_11 rfl c3 rfl (by decide) (by decide))
theorem dX12_apart_0 : decode cX12_apart 0 = .ok (.iload_n 0, 1) := by decide +kernel
theorem dX12_apart_1 : decode cX12_apart 1 = .ok (.iload_n 1, 1) := by decide +kernel
theorem dX12_apart_2 : decode cX12_apart 2 = .ok (.if_icmp .ge 9, 3) := by decide +kernel
theorem dX12_apart_5 : decode cX12_apart 5 = .ok (.iload_n 1, 1) := by decide +kernel
theorem dX12_apart_6 : decode cX12_apart 6 = .ok (.iload_n 0, 1) := by decide +kernel
theorem dX12_apart_7 : decode cX12_apart 7 = .ok (.isub, 1) := by decide +kernel
theorem dX12_apart_8 : decode cX12_apart 8 = .ok (.goto 6, 3) := by decide +kernel
theorem dX12_apart_11 : decode cX12_apart 11 = .ok (.iload_n 0, 1) := by decide +kernel
theorem dX12_apart_12 : decode cX12_apart 12 = .ok (.iload_n 1, 1) := by decide +kernel
theorem dX12_apart_13 : decode cX12_apart 13 = .ok (.isub, 1) := by decide +kernel
theorem dX12_apart_14 : decode cX12_apart 14 = .ok (.ireturn, 1) := by decide +kernel
abbrev M_X12_apart : MI := (RX12, cX12_apart, 2, (some .int), ({ frames := 0, cells := 0, slots := 0, locals := 0 } : Room), 0, 0, false)
def f_X12_apart (h : AH) (p0 : Int32) (p1 : Int32) : Option Int32 := (if p1 ≤ p0 then some (p0 - p1) else some (p1 - p0))
theorem km_X12_apart : KM yX12_apart M_X12_apart 2 := ⟨in_tb 1516 (by decide +kernel) rfl, in_tb 9 (by decide +kernel) rfl, by decide +kernel, rfl, rfl⟩
theorem hm_X12_apart : M_X12_apart.2.2.2.2.2.1 = 0 ∧ M_X12_apart.2.2.2.2.2.2.1 = 0 := ⟨rfl, rfl⟩
section
variable {l : Launch} {g : GG}
end
set_option maxRecDepth 100000 in
set_option maxHeartbeats 4000000 in
theorem c_X12_apart (l : Launch) (g : GG) (h : AH) (p0 : Int32) (p1 : Int32) : CN l g yX12_apart M_X12_apart false [.int p0, .int p1] h ((rPi h)) (f_X12_apart h p0 p1) := by
  refine CN.of (by decide) rfl (fun hh => by first | rfl | cases hh) (Nat.le_of_ble_eq_true rfl) ?_
  unfold f_X12_apart
  refine a_iload_n dX12_apart_0 rfl 0 rfl ?_
  refine a_iload_n dX12_apart_1 rfl 1 rfl ?_
  refine a_icmp_ge 11 dX12_apart_2 (by decide) (fun c1 => ?_) (fun c1 => ?_)
  · refine a_iload_n dX12_apart_11 rfl 0 rfl ?_
    refine a_iload_n dX12_apart_12 rfl 1 rfl ?_
    refine a_isub dX12_apart_13 ?_
    exact a_iret dX12_apart_14 rfl rfl (by decide) (by decide)
  · refine a_iload_n dX12_apart_5 rfl 1 rfl ?_
    refine a_iload_n dX12_apart_6 rfl 0 rfl ?_
    refine a_isub dX12_apart_7 ?_
    refine a_goto 14 dX12_apart_8 (by decide) ?_
    exact a_iret dX12_apart_14 rfl rfl (by decide) (by decide)
theorem dX12_gauge_0 : decode cX12_gauge 0 = .ok (.iload_n 1, 1) := by decide +kernel
theorem dX12_gauge_1 : decode cX12_gauge 1 = .ok (.iload_n 2, 1) := by decide +kernel
theorem dX12_gauge_2 : decode cX12_gauge 2 = .ok (.invokestatic 217, 3) := by decide +kernel
theorem dX12_gauge_5 : decode cX12_gauge 5 = .ok (.ifCond .ne 6, 3) := by decide +kernel
theorem dX12_gauge_8 : decode cX12_gauge 8 = .ok (.bipush (-2), 2) := by decide +kernel
theorem dX12_gauge_10 : decode cX12_gauge 10 = .ok (.ireturn, 1) := by decide +kernel
theorem dX12_gauge_11 : decode cX12_gauge 11 = .ok (.iload_n 3, 1) := by decide +kernel
theorem dX12_gauge_12 : decode cX12_gauge 12 = .ok (.invokestatic 221, 3) := by decide +kernel
theorem dX12_gauge_15 : decode cX12_gauge 15 = .ok (.ifCond .ne 5, 3) := by decide +kernel
theorem dX12_gauge_18 : decode cX12_gauge 18 = .ok (.iconst (-1), 1) := by decide +kernel
theorem dX12_gauge_19 : decode cX12_gauge 19 = .ok (.ireturn, 1) := by decide +kernel
theorem dX12_gauge_20 : decode cX12_gauge 20 = .ok (.aload_n 0, 1) := by decide +kernel
theorem dX12_gauge_21 : decode cX12_gauge 21 = .ok (.getfield 208, 3) := by decide +kernel
theorem dX12_gauge_24 : decode cX12_gauge 24 = .ok (.bipush 8, 2) := by decide +kernel
theorem dX12_gauge_26 : decode cX12_gauge 26 = .ok (.if_icmp .ne 6, 3) := by decide +kernel
theorem dX12_gauge_29 : decode cX12_gauge 29 = .ok (.bipush (-4), 2) := by decide +kernel
theorem dX12_gauge_31 : decode cX12_gauge 31 = .ok (.ireturn, 1) := by decide +kernel
theorem dX12_gauge_32 : decode cX12_gauge 32 = .ok (.aload_n 0, 1) := by decide +kernel
theorem dX12_gauge_33 : decode cX12_gauge 33 = .ok (.getfield 9, 3) := by decide +kernel
theorem dX12_gauge_36 : decode cX12_gauge 36 = .ok (.aload_n 0, 1) := by decide +kernel
theorem dX12_gauge_37 : decode cX12_gauge 37 = .ok (.getfield 208, 3) := by decide +kernel
theorem dX12_gauge_40 : decode cX12_gauge 40 = .ok (.iload_n 1, 1) := by decide +kernel
theorem dX12_gauge_41 : decode cX12_gauge 41 = .ok (.iastore, 1) := by decide +kernel
theorem dX12_gauge_42 : decode cX12_gauge 42 = .ok (.aload_n 0, 1) := by decide +kernel
theorem dX12_gauge_43 : decode cX12_gauge 43 = .ok (.getfield 15, 3) := by decide +kernel
theorem dX12_gauge_46 : decode cX12_gauge 46 = .ok (.aload_n 0, 1) := by decide +kernel
theorem dX12_gauge_47 : decode cX12_gauge 47 = .ok (.getfield 208, 3) := by decide +kernel
theorem dX12_gauge_50 : decode cX12_gauge 50 = .ok (.iload_n 2, 1) := by decide +kernel
theorem dX12_gauge_51 : decode cX12_gauge 51 = .ok (.iastore, 1) := by decide +kernel
theorem dX12_gauge_52 : decode cX12_gauge 52 = .ok (.aload_n 0, 1) := by decide +kernel
theorem dX12_gauge_53 : decode cX12_gauge 53 = .ok (.getfield 18, 3) := by decide +kernel
theorem dX12_gauge_56 : decode cX12_gauge 56 = .ok (.aload_n 0, 1) := by decide +kernel
theorem dX12_gauge_57 : decode cX12_gauge 57 = .ok (.getfield 208, 3) := by decide +kernel
theorem dX12_gauge_60 : decode cX12_gauge 60 = .ok (.iload_n 3, 1) := by decide +kernel
theorem dX12_gauge_61 : decode cX12_gauge 61 = .ok (.iastore, 1) := by decide +kernel
theorem dX12_gauge_62 : decode cX12_gauge 62 = .ok (.aload_n 0, 1) := by decide +kernel
theorem dX12_gauge_63 : decode cX12_gauge 63 = .ok (.getfield 21, 3) := by decide +kernel
theorem dX12_gauge_66 : decode cX12_gauge 66 = .ok (.aload_n 0, 1) := by decide +kernel
theorem dX12_gauge_67 : decode cX12_gauge 67 = .ok (.getfield 208, 3) := by decide +kernel
theorem dX12_gauge_70 : decode cX12_gauge 70 = .ok (.bipush 16, 2) := by decide +kernel
theorem dX12_gauge_72 : decode cX12_gauge 72 = .ok (.iastore, 1) := by decide +kernel
theorem dX12_gauge_73 : decode cX12_gauge 73 = .ok (.aload_n 0, 1) := by decide +kernel
theorem dX12_gauge_74 : decode cX12_gauge 74 = .ok (.dup, 1) := by decide +kernel
theorem dX12_gauge_75 : decode cX12_gauge 75 = .ok (.getfield 208, 3) := by decide +kernel
theorem dX12_gauge_78 : decode cX12_gauge 78 = .ok (.iconst 1, 1) := by decide +kernel
theorem dX12_gauge_79 : decode cX12_gauge 79 = .ok (.iadd, 1) := by decide +kernel
theorem dX12_gauge_80 : decode cX12_gauge 80 = .ok (.putfield 208, 3) := by decide +kernel
theorem dX12_gauge_83 : decode cX12_gauge 83 = .ok (.aload_n 0, 1) := by decide +kernel
theorem dX12_gauge_84 : decode cX12_gauge 84 = .ok (.getfield 208, 3) := by decide +kernel
theorem dX12_gauge_87 : decode cX12_gauge 87 = .ok (.iconst 1, 1) := by decide +kernel
theorem dX12_gauge_88 : decode cX12_gauge 88 = .ok (.isub, 1) := by decide +kernel
theorem dX12_gauge_89 : decode cX12_gauge 89 = .ok (.ireturn, 1) := by decide +kernel
abbrev M_X12_gauge : MI := (RX12, cX12_gauge, 4, (some .int), ({ frames := 2, cells := 0, slots := 0, locals := 43 } : Room), 0, 0, false)
def f_X12_gauge (h0 : AH) (p0 : Nat) (p1 : Int32) (p2 : Int32) (p3 : Int32) : Option (Int32 × AH) := if kd h0 p0 = 13 + 1 then (f_X12_isPlace h0 p1 p2).bind fun v1 => (if v1 = 0 then some ((-2), h0) else (f_X12_isSeason h0 p3).bind fun v3 => (if v3 = 0 then some ((-1), h0) else (xgi h0 p0 13 0).bind fun v5 => (if v5 = 8 then some ((-4), h0) else (xgr h0 p0 13 1).bind fun v7 => (xgi h0 p0 13 0).bind fun v8 => (xis h0 v7 v8 p1).bind fun h9 => (xgr h9 p0 13 2).bind fun v10 => (xgi h9 p0 13 0).bind fun v11 => (xis h9 v10 v11 p2).bind fun h12 => (xgr h12 p0 13 3).bind fun v13 => (xgi h12 p0 13 0).bind fun v14 => (xis h12 v13 v14 p3).bind fun h15 => (xgr h15 p0 13 4).bind fun v16 => (xgi h15 p0 13 0).bind fun v17 => (xis h15 v16 v17 16).bind fun h18 => (xgi h18 p0 13 0).bind fun v19 => (xpi h18 p0 13 0 (v19 + 1)).bind fun h20 => (xgi h20 p0 13 0).bind fun v21 => some ((v21 - 1), h20)))) else none
theorem g_X12_gauge {h0 : AH} {p0 : Nat} {p1 : Int32} {p2 : Int32} {p3 : Int32} {x : (Int32 × AH)} (e : f_X12_gauge h0 p0 p1 p2 p3 = some x) : kd h0 p0 = 13 + 1 := by
  unfold f_X12_gauge at e
  by_cases hk : kd h0 p0 = 13 + 1
  · exact hk
  · rw [if_neg hk] at e
    cases e
theorem km_X12_gauge : KM yX12_gauge M_X12_gauge 3 := ⟨in_tb 1431 (by decide +kernel) rfl, in_tb 9 (by decide +kernel) rfl, by decide +kernel, rfl, rfl⟩
theorem hm_X12_gauge : M_X12_gauge.2.2.2.2.2.1 = 0 ∧ M_X12_gauge.2.2.2.2.2.2.1 = 0 := ⟨rfl, rfl⟩
section
variable {l : Launch} {g : GG}
end
set_option maxRecDepth 100000 in
set_option maxHeartbeats 4000000 in
theorem c_X12_gauge (l : Launch) (g : GG) (h0 : AH) (p0 : Nat) (p1 : Int32) (p2 : Int32) (p3 : Int32) : CN l g yX12_gauge M_X12_gauge false [.ref p0, .int p1, .int p2, .int p3] h0 rSi (f_X12_gauge h0 p0 p1 p2 p3) := by
  refine CN.of (by decide) rfl (fun hh => by first | rfl | cases hh) (Nat.le_of_ble_eq_true rfl) ?_
  unfold f_X12_gauge
  refine a_gd (fun hkd => ?_)
  refine a_iload_n dX12_gauge_0 rfl 1 rfl ?_
  refine a_iload_n dX12_gauge_1 rfl 2 rfl ?_
  refine a_cS_Pi (as := [.int p1, .int p2]) (st := []) dX12_gauge_2 (c_X12_isPlace l g h0 p1 p2) rfl km_X12_isPlace (hm_X12_isPlace) w_methodLink_RainCoverModel_217 w_static_RainCoverModel_isPlace__II_Z ⟨⟨by decide, by decide⟩, ⟨by decide, by decide⟩⟩ (Nat.le_of_ble_eq_true rfl) (fun v1 => ?_)
  refine a_if_ne 11 dX12_gauge_5 (by decide) (fun c2 => ?_) (fun c2 => ?_)
  · refine a_bipush (v := (-2)) dX12_gauge_8 (by decide) ?_
    exact a_iret dX12_gauge_10 rfl rfl (by decide) (by decide)
  · refine a_iload_n dX12_gauge_11 rfl 3 rfl ?_
    refine a_cS_Pi (as := [.int p3]) (st := []) dX12_gauge_12 (c_X12_isSeason l g h0 p3) rfl km_X12_isSeason (hm_X12_isSeason) w_methodLink_RainCoverModel_221 w_static_RainCoverModel_isSeason__I_Z ⟨⟨by decide, by decide⟩, ⟨by decide, by decide⟩⟩ (Nat.le_of_ble_eq_true rfl) (fun v3 => ?_)
    refine a_if_ne 20 dX12_gauge_15 (by decide) (fun c4 => ?_) (fun c4 => ?_)
    · refine a_iconst (v := (-1)) dX12_gauge_18 (by decide) ?_
      exact a_iret dX12_gauge_19 rfl rfl (by decide) (by decide)
    · refine a_aload_n dX12_gauge_20 rfl 0 rfl ?_
      refine a_geti kc13 0 dX12_gauge_21 (by decide) rfl w_fieldLink_RainCoverModel_208 (fun v5 => ?_)
      refine a_bipush (v := 8) dX12_gauge_24 (by decide) ?_
      refine a_icmp_ne 32 dX12_gauge_26 (by decide) (fun c6 => ?_) (fun c6 => ?_)
      · refine a_bipush (v := (-4)) dX12_gauge_29 (by decide) ?_
        exact a_iret dX12_gauge_31 rfl rfl (by decide) (by decide)
      · refine a_aload_n dX12_gauge_32 rfl 0 rfl ?_
        refine a_getr kc13 1 dX12_gauge_33 (by decide) rfl w_fieldLink_RainCoverModel_9 (fun v7 => ?_)
        refine a_aload_n dX12_gauge_36 rfl 0 rfl ?_
        refine a_geti kc13 0 dX12_gauge_37 (by decide) rfl w_fieldLink_RainCoverModel_208 (fun v8 => ?_)
        refine a_iload_n dX12_gauge_40 rfl 1 rfl ?_
        refine a_iast dX12_gauge_41 (fun h9 => ?_)
        refine a_aload_n dX12_gauge_42 rfl 0 rfl ?_
        refine a_getr kc13 2 dX12_gauge_43 (by decide) rfl w_fieldLink_RainCoverModel_15 (fun v10 => ?_)
        refine a_aload_n dX12_gauge_46 rfl 0 rfl ?_
        refine a_geti kc13 0 dX12_gauge_47 (by decide) rfl w_fieldLink_RainCoverModel_208 (fun v11 => ?_)
        refine a_iload_n dX12_gauge_50 rfl 2 rfl ?_
        refine a_iast dX12_gauge_51 (fun h12 => ?_)
        refine a_aload_n dX12_gauge_52 rfl 0 rfl ?_
        refine a_getr kc13 3 dX12_gauge_53 (by decide) rfl w_fieldLink_RainCoverModel_18 (fun v13 => ?_)
        refine a_aload_n dX12_gauge_56 rfl 0 rfl ?_
        refine a_geti kc13 0 dX12_gauge_57 (by decide) rfl w_fieldLink_RainCoverModel_208 (fun v14 => ?_)
        refine a_iload_n dX12_gauge_60 rfl 3 rfl ?_
        refine a_iast dX12_gauge_61 (fun h15 => ?_)
        refine a_aload_n dX12_gauge_62 rfl 0 rfl ?_
        refine a_getr kc13 4 dX12_gauge_63 (by decide) rfl w_fieldLink_RainCoverModel_21 (fun v16 => ?_)
        refine a_aload_n dX12_gauge_66 rfl 0 rfl ?_
        refine a_geti kc13 0 dX12_gauge_67 (by decide) rfl w_fieldLink_RainCoverModel_208 (fun v17 => ?_)
        refine a_bipush (v := 16) dX12_gauge_70 (by decide) ?_
        refine a_iast dX12_gauge_72 (fun h18 => ?_)
        refine a_aload_n dX12_gauge_73 rfl 0 rfl ?_
        refine a_dup dX12_gauge_74 rfl ?_
        refine a_geti kc13 0 dX12_gauge_75 (by decide) rfl w_fieldLink_RainCoverModel_208 (fun v19 => ?_)
        refine a_iconst (v := 1) dX12_gauge_78 (by decide) ?_
        refine a_iadd dX12_gauge_79 ?_
        refine a_puti kc13 0 dX12_gauge_80 (by decide) rfl w_fieldLink_RainCoverModel_208 rfl rfl (fun h20 => ?_)
        refine a_aload_n dX12_gauge_83 rfl 0 rfl ?_
        refine a_geti kc13 0 dX12_gauge_84 (by decide) rfl w_fieldLink_RainCoverModel_208 (fun v21 => ?_)
        refine a_iconst (v := 1) dX12_gauge_87 (by decide) ?_
        refine a_isub dX12_gauge_88 ?_
        exact a_iret dX12_gauge_89 rfl rfl (by decide) (by decide)
theorem dX12_down_0 : decode cX12_down 0 = .ok (.aload_n 0, 1) := by decide +kernel
theorem dX12_down_1 : decode cX12_down 1 = .ok (.iload_n 1, 1) := by decide +kernel
theorem dX12_down_2 : decode cX12_down 2 = .ok (.invokevirtual 225, 3) := by decide +kernel
theorem dX12_down_5 : decode cX12_down 5 = .ok (.ifCond .eq 13, 3) := by decide +kernel
theorem dX12_down_8 : decode cX12_down 8 = .ok (.iload_n 2, 1) := by decide +kernel
theorem dX12_down_9 : decode cX12_down 9 = .ok (.iconst 0, 1) := by decide +kernel
theorem dX12_down_10 : decode cX12_down 10 = .ok (.bipush 16, 2) := by decide +kernel
theorem dX12_down_12 : decode cX12_down 12 = .ok (.invokestatic 204, 3) := by decide +kernel
theorem dX12_down_15 : decode cX12_down 15 = .ok (.ifCond .ne 5, 3) := by decide +kernel
theorem dX12_down_18 : decode cX12_down 18 = .ok (.iconst (-1), 1) := by decide +kernel
theorem dX12_down_19 : decode cX12_down 19 = .ok (.ireturn, 1) := by decide +kernel
theorem dX12_down_20 : decode cX12_down 20 = .ok (.aload_n 0, 1) := by decide +kernel
theorem dX12_down_21 : decode cX12_down 21 = .ok (.getfield 21, 3) := by decide +kernel
theorem dX12_down_24 : decode cX12_down 24 = .ok (.iload_n 1, 1) := by decide +kernel
theorem dX12_down_25 : decode cX12_down 25 = .ok (.iload_n 2, 1) := by decide +kernel
theorem dX12_down_26 : decode cX12_down 26 = .ok (.iastore, 1) := by decide +kernel
theorem dX12_down_27 : decode cX12_down 27 = .ok (.iconst 1, 1) := by decide +kernel
theorem dX12_down_28 : decode cX12_down 28 = .ok (.ireturn, 1) := by decide +kernel
abbrev M_X12_down : MI := (RX12, cX12_down, 3, (some .int), ({ frames := 2, cells := 0, slots := 0, locals := 43 } : Room), 0, 0, false)
def f_X12_down (h0 : AH) (p0 : Nat) (p1 : Int32) (p2 : Int32) : Option (Int32 × AH) := if kd h0 p0 = 13 + 1 then (f_X12_isGauge h0 p0 p1).bind fun v1 => (if v1 = 0 then some ((-1), h0) else (f_X12_in h0 p2 0 16).bind fun v3 => (if v3 = 0 then some ((-1), h0) else (xgr h0 p0 13 4).bind fun v5 => (xis h0 v5 p1 p2).bind fun h6 => some (1, h6))) else none
theorem g_X12_down {h0 : AH} {p0 : Nat} {p1 : Int32} {p2 : Int32} {x : (Int32 × AH)} (e : f_X12_down h0 p0 p1 p2 = some x) : kd h0 p0 = 13 + 1 := by
  unfold f_X12_down at e
  by_cases hk : kd h0 p0 = 13 + 1
  · exact hk
  · rw [if_neg hk] at e
    cases e
theorem km_X12_down : KM yX12_down M_X12_down 2 := ⟨in_tb 1444 (by decide +kernel) rfl, in_tb 9 (by decide +kernel) rfl, by decide +kernel, rfl, rfl⟩
theorem hm_X12_down : M_X12_down.2.2.2.2.2.1 = 0 ∧ M_X12_down.2.2.2.2.2.2.1 = 0 := ⟨rfl, rfl⟩
section
variable {l : Launch} {g : GG}
end
set_option maxRecDepth 100000 in
set_option maxHeartbeats 4000000 in
theorem c_X12_down (l : Launch) (g : GG) (h0 : AH) (p0 : Nat) (p1 : Int32) (p2 : Int32) : CN l g yX12_down M_X12_down false [.ref p0, .int p1, .int p2] h0 rSi (f_X12_down h0 p0 p1 p2) := by
  refine CN.of (by decide) rfl (fun hh => by first | rfl | cases hh) (Nat.le_of_ble_eq_true rfl) ?_
  unfold f_X12_down
  refine a_gd (fun hkd => ?_)
  refine a_aload_n dX12_down_0 rfl 0 rfl ?_
  refine a_iload_n dX12_down_1 rfl 1 rfl ?_
  refine a_cV_Pi (r := p0) (ci := 13) (as := [.int p1]) (st := []) dX12_down_2 (c_X12_isGauge l g h0 p0 p1) rfl km_X12_isGauge (hm_X12_isGauge) rfl (by decide) rfl (fun _ ee => g_X12_isGauge ee) w_methodLink_RainCoverModel_225 w_instanceMethod_RainCoverModel_isGauge__I_Z w_selects_RainCoverModel_RainCoverModel_isGauge__I_Z_RainCoverModel_isGauge__I_Z ⟨⟨by decide, by decide⟩, ⟨by decide, by decide⟩⟩ (Nat.le_of_ble_eq_true rfl) (fun v1 => ?_)
  refine a_if_eq 18 dX12_down_5 (by decide) (fun c2 => ?_) (fun c2 => ?_)
  · refine a_iconst (v := (-1)) dX12_down_18 (by decide) ?_
    exact a_iret dX12_down_19 rfl rfl (by decide) (by decide)
  · refine a_iload_n dX12_down_8 rfl 2 rfl ?_
    refine a_iconst (v := 0) dX12_down_9 (by decide) ?_
    refine a_bipush (v := 16) dX12_down_10 (by decide) ?_
    refine a_cS_Pi (as := [.int p2, .int 0, .int 16]) (st := []) dX12_down_12 (c_X12_in l g h0 p2 0 16) rfl km_X12_in (hm_X12_in) w_methodLink_RainCoverModel_204 w_static_RainCoverModel_in__III_Z ⟨⟨by decide, by decide⟩, ⟨by decide, by decide⟩⟩ (Nat.le_of_ble_eq_true rfl) (fun v3 => ?_)
    refine a_if_ne 20 dX12_down_15 (by decide) (fun c4 => ?_) (fun c4 => ?_)
    · refine a_iconst (v := (-1)) dX12_down_18 (by decide) ?_
      exact a_iret dX12_down_19 rfl rfl (by decide) (by decide)
    · refine a_aload_n dX12_down_20 rfl 0 rfl ?_
      refine a_getr kc13 4 dX12_down_21 (by decide) rfl w_fieldLink_RainCoverModel_21 (fun v5 => ?_)
      refine a_iload_n dX12_down_24 rfl 1 rfl ?_
      refine a_iload_n dX12_down_25 rfl 2 rfl ?_
      refine a_iast dX12_down_26 (fun h6 => ?_)
      refine a_iconst (v := 1) dX12_down_27 (by decide) ?_
      exact a_iret dX12_down_28 rfl rfl (by decide) (by decide)
theorem dX12_stands_0 : decode cX12_stands 0 = .ok (.aload_n 0, 1) := by decide +kernel
theorem dX12_stands_1 : decode cX12_stands 1 = .ok (.getfield 18, 3) := by decide +kernel
theorem dX12_stands_4 : decode cX12_stands 4 = .ok (.iload_n 1, 1) := by decide +kernel
theorem dX12_stands_5 : decode cX12_stands 5 = .ok (.iaload, 1) := by decide +kernel
theorem dX12_stands_6 : decode cX12_stands 6 = .ok (.iload_n 2, 1) := by decide +kernel
theorem dX12_stands_7 : decode cX12_stands 7 = .ok (.if_icmp .gt 17, 3) := by decide +kernel
theorem dX12_stands_10 : decode cX12_stands 10 = .ok (.iload_n 2, 1) := by decide +kernel
theorem dX12_stands_11 : decode cX12_stands 11 = .ok (.aload_n 0, 1) := by decide +kernel
theorem dX12_stands_12 : decode cX12_stands 12 = .ok (.getfield 21, 3) := by decide +kernel
theorem dX12_stands_15 : decode cX12_stands 15 = .ok (.iload_n 1, 1) := by decide +kernel
theorem dX12_stands_16 : decode cX12_stands 16 = .ok (.iaload, 1) := by decide +kernel
theorem dX12_stands_17 : decode cX12_stands 17 = .ok (.if_icmp .ge 7, 3) := by decide +kernel
theorem dX12_stands_20 : decode cX12_stands 20 = .ok (.iconst 1, 1) := by decide +kernel
theorem dX12_stands_21 : decode cX12_stands 21 = .ok (.goto 4, 3) := by decide +kernel
theorem dX12_stands_24 : decode cX12_stands 24 = .ok (.iconst 0, 1) := by decide +kernel
theorem dX12_stands_25 : decode cX12_stands 25 = .ok (.ireturn, 1) := by decide +kernel
abbrev M_X12_stands : MI := (RX12, cX12_stands, 3, (some .boolean), ({ frames := 0, cells := 0, slots := 0, locals := 0 } : Room), 0, 0, false)
def f_X12_stands (h : AH) (p0 : Nat) (p1 : Int32) (p2 : Int32) : Option Int32 := if kd h p0 = 13 + 1 then (xgr h p0 13 3).bind fun v1 => (xia h v1 p1).bind fun v2 => (if p2 < v2 then some 0 else (xgr h p0 13 4).bind fun v4 => (xia h v4 p1).bind fun v5 => (if v5 ≤ p2 then some 0 else some 1)) else none
theorem g_X12_stands {h : AH} {p0 : Nat} {p1 : Int32} {p2 : Int32} {x : Int32} (e : f_X12_stands h p0 p1 p2 = some x) : kd h p0 = 13 + 1 := by
  unfold f_X12_stands at e
  by_cases hk : kd h p0 = 13 + 1
  · exact hk
  · rw [if_neg hk] at e
    cases e
theorem km_X12_stands : KM yX12_stands M_X12_stands 2 := ⟨in_tb 1640 (by decide +kernel) rfl, in_tb 9 (by decide +kernel) rfl, by decide +kernel, rfl, rfl⟩
theorem hm_X12_stands : M_X12_stands.2.2.2.2.2.1 = 0 ∧ M_X12_stands.2.2.2.2.2.2.1 = 0 := ⟨rfl, rfl⟩
section
variable {l : Launch} {g : GG}
end
set_option maxRecDepth 100000 in
set_option maxHeartbeats 4000000 in
theorem c_X12_stands (l : Launch) (g : GG) (h : AH) (p0 : Nat) (p1 : Int32) (p2 : Int32) : CN l g yX12_stands M_X12_stands false [.ref p0, .int p1, .int p2] h ((rPi h)) (f_X12_stands h p0 p1 p2) := by
  refine CN.of (by decide) rfl (fun hh => by first | rfl | cases hh) (Nat.le_of_ble_eq_true rfl) ?_
  unfold f_X12_stands
  refine a_gd (fun hkd => ?_)
  refine a_aload_n dX12_stands_0 rfl 0 rfl ?_
  refine a_getr kc13 3 dX12_stands_1 (by decide) rfl w_fieldLink_RainCoverModel_18 (fun v1 => ?_)
  refine a_iload_n dX12_stands_4 rfl 1 rfl ?_
  refine a_iald dX12_stands_5 (fun v2 => ?_)
  refine a_iload_n dX12_stands_6 rfl 2 rfl ?_
  refine a_icmp_gt 24 dX12_stands_7 (by decide) (fun c3 => ?_) (fun c3 => ?_)
  · refine a_iconst (v := 0) dX12_stands_24 (by decide) ?_
    exact a_zret dX12_stands_25 rfl (Or.inl rfl) rfl (by decide) (by decide)
  · refine a_iload_n dX12_stands_10 rfl 2 rfl ?_
    refine a_aload_n dX12_stands_11 rfl 0 rfl ?_
    refine a_getr kc13 4 dX12_stands_12 (by decide) rfl w_fieldLink_RainCoverModel_21 (fun v4 => ?_)
    refine a_iload_n dX12_stands_15 rfl 1 rfl ?_
    refine a_iald dX12_stands_16 (fun v5 => ?_)
    refine a_icmp_ge 24 dX12_stands_17 (by decide) (fun c6 => ?_) (fun c6 => ?_)
    · refine a_iconst (v := 0) dX12_stands_24 (by decide) ?_
      exact a_zret dX12_stands_25 rfl (Or.inl rfl) rfl (by decide) (by decide)
    · refine a_iconst (v := 1) dX12_stands_20 (by decide) ?_
      refine a_goto 25 dX12_stands_21 (by decide) ?_
      exact a_zret dX12_stands_25 rfl (Or.inr rfl) rfl (by decide) (by decide)
theorem dX12_law_0 : decode cX12_law 0 = .ok (.iload_n 1, 1) := by decide +kernel
theorem dX12_law_1 : decode cX12_law 1 = .ok (.iconst 0, 1) := by decide +kernel
theorem dX12_law_2 : decode cX12_law 2 = .ok (.iconst 3, 1) := by decide +kernel
theorem dX12_law_3 : decode cX12_law 3 = .ok (.invokestatic 204, 3) := by decide +kernel
theorem dX12_law_6 : decode cX12_law 6 = .ok (.ifCond .ne 5, 3) := by decide +kernel
theorem dX12_law_9 : decode cX12_law 9 = .ok (.iconst (-1), 1) := by decide +kernel
theorem dX12_law_10 : decode cX12_law 10 = .ok (.ireturn, 1) := by decide +kernel
theorem dX12_law_11 : decode cX12_law 11 = .ok (.iload_n 2, 1) := by decide +kernel
theorem dX12_law_12 : decode cX12_law 12 = .ok (.iconst 0, 1) := by decide +kernel
theorem dX12_law_13 : decode cX12_law 13 = .ok (.aload_n 0, 1) := by decide +kernel
theorem dX12_law_14 : decode cX12_law 14 = .ok (.getfield 27, 3) := by decide +kernel
theorem dX12_law_17 : decode cX12_law 17 = .ok (.iload_n 1, 1) := by decide +kernel
theorem dX12_law_18 : decode cX12_law 18 = .ok (.iaload, 1) := by decide +kernel
theorem dX12_law_19 : decode cX12_law 19 = .ok (.invokestatic 204, 3) := by decide +kernel
theorem dX12_law_22 : decode cX12_law 22 = .ok (.ifCond .ne 6, 3) := by decide +kernel
theorem dX12_law_25 : decode cX12_law 25 = .ok (.bipush (-2), 2) := by decide +kernel
theorem dX12_law_27 : decode cX12_law 27 = .ok (.ireturn, 1) := by decide +kernel
theorem dX12_law_28 : decode cX12_law 28 = .ok (.aload_n 0, 1) := by decide +kernel
theorem dX12_law_29 : decode cX12_law 29 = .ok (.getfield 24, 3) := by decide +kernel
theorem dX12_law_32 : decode cX12_law 32 = .ok (.iload_n 1, 1) := by decide +kernel
theorem dX12_law_33 : decode cX12_law 33 = .ok (.iaload, 1) := by decide +kernel
theorem dX12_law_34 : decode cX12_law 34 = .ok (.istore_n 3, 1) := by decide +kernel
theorem dX12_law_35 : decode cX12_law 35 = .ok (.aload_n 0, 1) := by decide +kernel
theorem dX12_law_36 : decode cX12_law 36 = .ok (.getfield 24, 3) := by decide +kernel
theorem dX12_law_39 : decode cX12_law 39 = .ok (.iload_n 1, 1) := by decide +kernel
theorem dX12_law_40 : decode cX12_law 40 = .ok (.iload_n 2, 1) := by decide +kernel
theorem dX12_law_41 : decode cX12_law 41 = .ok (.iastore, 1) := by decide +kernel
theorem dX12_law_42 : decode cX12_law 42 = .ok (.iload_n 3, 1) := by decide +kernel
theorem dX12_law_43 : decode cX12_law 43 = .ok (.ireturn, 1) := by decide +kernel
abbrev M_X12_law : MI := (RX12, cX12_law, 4, (some .int), ({ frames := 1, cells := 0, slots := 0, locals := 22 } : Room), 0, 0, false)
def f_X12_law (h0 : AH) (p0 : Nat) (p1 : Int32) (p2 : Int32) : Option (Int32 × AH) := if kd h0 p0 = 13 + 1 then (f_X12_in h0 p1 0 3).bind fun v1 => (if v1 = 0 then some ((-1), h0) else (xgr h0 p0 13 6).bind fun v3 => (xia h0 v3 p1).bind fun v4 => (f_X12_in h0 p2 0 v4).bind fun v5 => (if v5 = 0 then some ((-2), h0) else (xgr h0 p0 13 5).bind fun v7 => (xia h0 v7 p1).bind fun v8 => (xgr h0 p0 13 5).bind fun v9 => (xis h0 v9 p1 p2).bind fun h10 => some (v8, h10))) else none
theorem g_X12_law {h0 : AH} {p0 : Nat} {p1 : Int32} {p2 : Int32} {x : (Int32 × AH)} (e : f_X12_law h0 p0 p1 p2 = some x) : kd h0 p0 = 13 + 1 := by
  unfold f_X12_law at e
  by_cases hk : kd h0 p0 = 13 + 1
  · exact hk
  · rw [if_neg hk] at e
    cases e
theorem km_X12_law : KM yX12_law M_X12_law 2 := ⟨in_tb 1452 (by decide +kernel) rfl, in_tb 9 (by decide +kernel) rfl, by decide +kernel, rfl, rfl⟩
theorem hm_X12_law : M_X12_law.2.2.2.2.2.1 = 0 ∧ M_X12_law.2.2.2.2.2.2.1 = 0 := ⟨rfl, rfl⟩
section
variable {l : Launch} {g : GG}
end
set_option maxRecDepth 100000 in
set_option maxHeartbeats 4000000 in
theorem c_X12_law (l : Launch) (g : GG) (h0 : AH) (p0 : Nat) (p1 : Int32) (p2 : Int32) : CN l g yX12_law M_X12_law false [.ref p0, .int p1, .int p2] h0 rSi (f_X12_law h0 p0 p1 p2) := by
  refine CN.of (by decide) rfl (fun hh => by first | rfl | cases hh) (Nat.le_of_ble_eq_true rfl) ?_
  unfold f_X12_law
  refine a_gd (fun hkd => ?_)
  refine a_iload_n dX12_law_0 rfl 1 rfl ?_
  refine a_iconst (v := 0) dX12_law_1 (by decide) ?_
  refine a_iconst (v := 3) dX12_law_2 (by decide) ?_
  refine a_cS_Pi (as := [.int p1, .int 0, .int 3]) (st := []) dX12_law_3 (c_X12_in l g h0 p1 0 3) rfl km_X12_in (hm_X12_in) w_methodLink_RainCoverModel_204 w_static_RainCoverModel_in__III_Z ⟨⟨by decide, by decide⟩, ⟨by decide, by decide⟩⟩ (Nat.le_of_ble_eq_true rfl) (fun v1 => ?_)
  refine a_if_ne 11 dX12_law_6 (by decide) (fun c2 => ?_) (fun c2 => ?_)
  · refine a_iconst (v := (-1)) dX12_law_9 (by decide) ?_
    exact a_iret dX12_law_10 rfl rfl (by decide) (by decide)
  · refine a_iload_n dX12_law_11 rfl 2 rfl ?_
    refine a_iconst (v := 0) dX12_law_12 (by decide) ?_
    refine a_aload_n dX12_law_13 rfl 0 rfl ?_
    refine a_getr kc13 6 dX12_law_14 (by decide) rfl w_fieldLink_RainCoverModel_27 (fun v3 => ?_)
    refine a_iload_n dX12_law_17 rfl 1 rfl ?_
    refine a_iald dX12_law_18 (fun v4 => ?_)
    refine a_cS_Pi (as := [.int p2, .int 0, .int v4]) (st := []) dX12_law_19 (c_X12_in l g h0 p2 0 v4) rfl km_X12_in (hm_X12_in) w_methodLink_RainCoverModel_204 w_static_RainCoverModel_in__III_Z ⟨⟨by decide, by decide⟩, ⟨by decide, by decide⟩⟩ (Nat.le_of_ble_eq_true rfl) (fun v5 => ?_)
    refine a_if_ne 28 dX12_law_22 (by decide) (fun c6 => ?_) (fun c6 => ?_)
    · refine a_bipush (v := (-2)) dX12_law_25 (by decide) ?_
      exact a_iret dX12_law_27 rfl rfl (by decide) (by decide)
    · refine a_aload_n dX12_law_28 rfl 0 rfl ?_
      refine a_getr kc13 5 dX12_law_29 (by decide) rfl w_fieldLink_RainCoverModel_24 (fun v7 => ?_)
      refine a_iload_n dX12_law_32 rfl 1 rfl ?_
      refine a_iald dX12_law_33 (fun v8 => ?_)
      refine a_istore_n (lc2 := [(3, .int v8), (0, .ref p0), (1, .int p1), (2, .int p2)]) dX12_law_34 rfl (by decide) rfl ?_
      refine a_aload_n dX12_law_35 rfl 1 rfl ?_
      refine a_getr kc13 5 dX12_law_36 (by decide) rfl w_fieldLink_RainCoverModel_24 (fun v9 => ?_)
      refine a_iload_n dX12_law_39 rfl 2 rfl ?_
      refine a_iload_n dX12_law_40 rfl 3 rfl ?_
      refine a_iast dX12_law_41 (fun h10 => ?_)
      refine a_iload_n dX12_law_42 rfl 0 rfl ?_
      exact a_iret dX12_law_43 rfl rfl (by decide) (by decide)
theorem dX12_clears_0 : decode cX12_clears 0 = .ok (.iconst 0, 1) := by decide +kernel
theorem dX12_clears_1 : decode cX12_clears 1 = .ok (.istore_n 2, 1) := by decide +kernel
theorem dX12_clears_2 : decode cX12_clears 2 = .ok (.iload_n 2, 1) := by decide +kernel
theorem dX12_clears_3 : decode cX12_clears 3 = .ok (.sipush 1536, 3) := by decide +kernel
theorem dX12_clears_6 : decode cX12_clears 6 = .ok (.if_icmp .ge 22, 3) := by decide +kernel
theorem dX12_clears_9 : decode cX12_clears 9 = .ok (.aload_n 0, 1) := by decide +kernel
theorem dX12_clears_10 : decode cX12_clears 10 = .ok (.getfield 40, 3) := by decide +kernel
theorem dX12_clears_13 : decode cX12_clears 13 = .ok (.sipush 1536, 3) := by decide +kernel
theorem dX12_clears_16 : decode cX12_clears 16 = .ok (.iload_n 1, 1) := by decide +kernel
theorem dX12_clears_17 : decode cX12_clears 17 = .ok (.imul, 1) := by decide +kernel
theorem dX12_clears_18 : decode cX12_clears 18 = .ok (.iload_n 2, 1) := by decide +kernel
theorem dX12_clears_19 : decode cX12_clears 19 = .ok (.iadd, 1) := by decide +kernel
theorem dX12_clears_20 : decode cX12_clears 20 = .ok (.iconst (-1), 1) := by decide +kernel
theorem dX12_clears_21 : decode cX12_clears 21 = .ok (.iastore, 1) := by decide +kernel
theorem dX12_clears_22 : decode cX12_clears 22 = .ok (.iinc 2 1, 3) := by decide +kernel
theorem dX12_clears_25 : decode cX12_clears 25 = .ok (.goto (-23), 3) := by decide +kernel
theorem dX12_clears_28 : decode cX12_clears 28 = .ok (.iconst 0, 1) := by decide +kernel
theorem dX12_clears_29 : decode cX12_clears 29 = .ok (.istore_n 2, 1) := by decide +kernel
theorem dX12_clears_30 : decode cX12_clears 30 = .ok (.iload_n 2, 1) := by decide +kernel
theorem dX12_clears_31 : decode cX12_clears 31 = .ok (.sipush 768, 3) := by decide +kernel
theorem dX12_clears_34 : decode cX12_clears 34 = .ok (.if_icmp .ge 22, 3) := by decide +kernel
theorem dX12_clears_37 : decode cX12_clears 37 = .ok (.aload_n 0, 1) := by decide +kernel
theorem dX12_clears_38 : decode cX12_clears 38 = .ok (.getfield 43, 3) := by decide +kernel
theorem dX12_clears_41 : decode cX12_clears 41 = .ok (.sipush 768, 3) := by decide +kernel
theorem dX12_clears_44 : decode cX12_clears 44 = .ok (.iload_n 1, 1) := by decide +kernel
theorem dX12_clears_45 : decode cX12_clears 45 = .ok (.imul, 1) := by decide +kernel
theorem dX12_clears_46 : decode cX12_clears 46 = .ok (.iload_n 2, 1) := by decide +kernel
theorem dX12_clears_47 : decode cX12_clears 47 = .ok (.iadd, 1) := by decide +kernel
theorem dX12_clears_48 : decode cX12_clears 48 = .ok (.iconst (-1), 1) := by decide +kernel
theorem dX12_clears_49 : decode cX12_clears 49 = .ok (.iastore, 1) := by decide +kernel
theorem dX12_clears_50 : decode cX12_clears 50 = .ok (.iinc 2 1, 3) := by decide +kernel
theorem dX12_clears_53 : decode cX12_clears 53 = .ok (.goto (-23), 3) := by decide +kernel
theorem dX12_clears_56 : decode cX12_clears 56 = .ok (.return_, 1) := by decide +kernel
abbrev M_X12_clears : MI := (RX12, cX12_clears, 3, none, ({ frames := 0, cells := 0, slots := 0, locals := 0 } : Room), 0, 0, false)
def f_X12_clears_b30_body (N : Nat) (K30 : AH → Nat → Int32 → Int32 → Option AH) (h : AH) (x0 : Nat) (x1 : Int32) (x2 : Int32) : Option AH := (if 768 ≤ x2 then some h else (xgr h x0 13 12).bind fun v5 => (xis h v5 ((768 * x1) + x2) (-1)).bind fun h6 => K30 h6 x0 x1 (x2 + 1))
def f_X12_clears_b30 (N : Nat) : Nat → AH → Nat → Int32 → Int32 → Option AH
  | 0, _, _, _, _ => none
  | n + 1, h, x0, x1, x2 => f_X12_clears_b30_body N  (f_X12_clears_b30 N  n) h x0 x1 x2
def f_X12_clears_b2_body (N : Nat) (K2 : AH → Nat → Int32 → Int32 → Option AH) (h : AH) (x0 : Nat) (x1 : Int32) (x2 : Int32) : Option AH := (if 1536 ≤ x2 then f_X12_clears_b30 N N h x0 x1 0 else (xgr h x0 13 11).bind fun v2 => (xis h v2 ((1536 * x1) + x2) (-1)).bind fun h3 => K2 h3 x0 x1 (x2 + 1))
def f_X12_clears_b2 (N : Nat) : Nat → AH → Nat → Int32 → Int32 → Option AH
  | 0, _, _, _, _ => none
  | n + 1, h, x0, x1, x2 => f_X12_clears_b2_body N  (f_X12_clears_b2 N  n) h x0 x1 x2
def f_X12_clears (h0 : AH) (N : Nat) (p0 : Nat) (p1 : Int32) : Option AH := if kd h0 p0 = 13 + 1 then f_X12_clears_b2 N N h0 p0 p1 0 else none
theorem g_X12_clears {h0 : AH} {N : Nat} {p0 : Nat} {p1 : Int32} {x : AH} (e : f_X12_clears h0 N p0 p1 = some x) : kd h0 p0 = 13 + 1 := by
  unfold f_X12_clears at e
  by_cases hk : kd h0 p0 = 13 + 1
  · exact hk
  · rw [if_neg hk] at e
    cases e
theorem km_X12_clears : KM yX12_clears M_X12_clears 1 := ⟨in_tb 1195 (by decide +kernel) rfl, in_tb 9 (by decide +kernel) rfl, by decide +kernel, rfl, rfl⟩
theorem hm_X12_clears : M_X12_clears.2.2.2.2.2.1 = 0 ∧ M_X12_clears.2.2.2.2.2.2.1 = 0 := ⟨rfl, rfl⟩
section
variable {l : Launch} {g : GG}
set_option maxRecDepth 100000 in
set_option maxHeartbeats 4000000 in
theorem t_X12_clears_b30_body (h0 : AH) (N : Nat) (K30 : AH → Nat → Int32 → Int32 → Option AH) (hK30 : ∀ (z : AH) (z0 : Nat) (z1 : Int32) (z2 : Int32), AO l g M_X12_clears false h0 30 [(0, .ref z0), (1, .int z1), (2, .int z2)] [] z 0 0 rSv (K30 z z0 z1 z2)) (h : AH) (x0 : Nat) (x1 : Int32) (x2 : Int32) : AO l g M_X12_clears false h0 30 [(0, .ref x0), (1, .int x1), (2, .int x2)] [] h 0 0 rSv (f_X12_clears_b30_body N K30 h x0 x1 x2) := by
  unfold f_X12_clears_b30_body
  refine a_iload_n dX12_clears_30 rfl 2 rfl ?_
  refine a_sipush (v := 768) dX12_clears_31 (by decide) ?_
  refine a_icmp_ge 56 dX12_clears_34 (by decide) (fun c4 => ?_) (fun c4 => ?_)
  · exact a_vret dX12_clears_56 rfl rfl (by decide) (by decide)
  · refine a_aload_n dX12_clears_37 rfl 0 rfl ?_
    refine a_getr kc13 12 dX12_clears_38 (by decide) rfl w_fieldLink_RainCoverModel_43 (fun v5 => ?_)
    refine a_sipush (v := 768) dX12_clears_41 (by decide) ?_
    refine a_iload_n dX12_clears_44 rfl 1 rfl ?_
    refine a_imul dX12_clears_45 ?_
    refine a_iload_n dX12_clears_46 rfl 2 rfl ?_
    refine a_iadd dX12_clears_47 ?_
    refine a_iconst (v := (-1)) dX12_clears_48 (by decide) ?_
    refine a_iast dX12_clears_49 (fun h6 => ?_)
    refine a_iinc (q := 2) (v := (x2 + 1)) (lc2 := [(2, .int (x2 + 1)), (0, .ref x0), (1, .int x1)]) dX12_clears_50 rfl rfl (by decide) rfl ?_
    refine a_goto 30 dX12_clears_53 (by decide) ?_
    refine a_pick (lc2 := [(0, .ref x0), (1, .int x1), (2, .int (x2 + 1))]) [1, 2, 0] rfl ?_
    exact hK30 h6 x0 x1 (x2 + 1)
set_option maxRecDepth 100000 in
set_option maxHeartbeats 4000000 in
theorem t_X12_clears_b30 (h0 : AH) (N : Nat) : ∀ (n : Nat) (h : AH) (x0 : Nat) (x1 : Int32) (x2 : Int32) , AO l g M_X12_clears false h0 30 [(0, .ref x0), (1, .int x1), (2, .int x2)] [] h 0 0 rSv (f_X12_clears_b30 N  n h x0 x1 x2) := by
  intro n
  induction n with
  | zero => intro h x0 x1 x2; exact a_eq rfl a_none
  | succ n ih => intro h x0 x1 x2; exact a_eq rfl (t_X12_clears_b30_body h0 N  (f_X12_clears_b30 N  n) ih h x0 x1 x2)
set_option maxRecDepth 100000 in
set_option maxHeartbeats 4000000 in
theorem t_X12_clears_b2_body (h0 : AH) (N : Nat) (K2 : AH → Nat → Int32 → Int32 → Option AH) (hK2 : ∀ (z : AH) (z0 : Nat) (z1 : Int32) (z2 : Int32), AO l g M_X12_clears false h0 2 [(0, .ref z0), (1, .int z1), (2, .int z2)] [] z 0 0 rSv (K2 z z0 z1 z2)) (h : AH) (x0 : Nat) (x1 : Int32) (x2 : Int32) : AO l g M_X12_clears false h0 2 [(0, .ref x0), (1, .int x1), (2, .int x2)] [] h 0 0 rSv (f_X12_clears_b2_body N K2 h x0 x1 x2) := by
  unfold f_X12_clears_b2_body
  refine a_iload_n dX12_clears_2 rfl 2 rfl ?_
  refine a_sipush (v := 1536) dX12_clears_3 (by decide) ?_
  refine a_icmp_ge 28 dX12_clears_6 (by decide) (fun c1 => ?_) (fun c1 => ?_)
  · refine a_iconst (v := 0) dX12_clears_28 (by decide) ?_
    refine a_istore_n (lc2 := [(2, .int 0), (0, .ref x0), (1, .int x1)]) dX12_clears_29 rfl (by decide) rfl ?_
    refine a_pick (lc2 := [(0, .ref x0), (1, .int x1), (2, .int 0)]) [1, 2, 0] rfl ?_
    exact t_X12_clears_b30 h0 N N h x0 x1 0
  · refine a_aload_n dX12_clears_9 rfl 0 rfl ?_
    refine a_getr kc13 11 dX12_clears_10 (by decide) rfl w_fieldLink_RainCoverModel_40 (fun v2 => ?_)
    refine a_sipush (v := 1536) dX12_clears_13 (by decide) ?_
    refine a_iload_n dX12_clears_16 rfl 1 rfl ?_
    refine a_imul dX12_clears_17 ?_
    refine a_iload_n dX12_clears_18 rfl 2 rfl ?_
    refine a_iadd dX12_clears_19 ?_
    refine a_iconst (v := (-1)) dX12_clears_20 (by decide) ?_
    refine a_iast dX12_clears_21 (fun h3 => ?_)
    refine a_iinc (q := 2) (v := (x2 + 1)) (lc2 := [(2, .int (x2 + 1)), (0, .ref x0), (1, .int x1)]) dX12_clears_22 rfl rfl (by decide) rfl ?_
    refine a_goto 2 dX12_clears_25 (by decide) ?_
    refine a_pick (lc2 := [(0, .ref x0), (1, .int x1), (2, .int (x2 + 1))]) [1, 2, 0] rfl ?_
    exact hK2 h3 x0 x1 (x2 + 1)
set_option maxRecDepth 100000 in
set_option maxHeartbeats 4000000 in
theorem t_X12_clears_b2 (h0 : AH) (N : Nat) : ∀ (n : Nat) (h : AH) (x0 : Nat) (x1 : Int32) (x2 : Int32) , AO l g M_X12_clears false h0 2 [(0, .ref x0), (1, .int x1), (2, .int x2)] [] h 0 0 rSv (f_X12_clears_b2 N  n h x0 x1 x2) := by
  intro n
  induction n with
  | zero => intro h x0 x1 x2; exact a_eq rfl a_none
  | succ n ih => intro h x0 x1 x2; exact a_eq rfl (t_X12_clears_b2_body h0 N  (f_X12_clears_b2 N  n) ih h x0 x1 x2)
end
set_option maxRecDepth 100000 in
set_option maxHeartbeats 4000000 in
theorem c_X12_clears (l : Launch) (g : GG) (h0 : AH) (N : Nat) (p0 : Nat) (p1 : Int32) : CN l g yX12_clears M_X12_clears false [.ref p0, .int p1] h0 rSv (f_X12_clears h0 N p0 p1) := by
  refine CN.of (by decide) rfl (fun hh => by first | rfl | cases hh) (Nat.le_of_ble_eq_true rfl) ?_
  unfold f_X12_clears
  refine a_gd (fun hkd => ?_)
  refine a_iconst (v := 0) dX12_clears_0 (by decide) ?_
  refine a_istore_n (lc2 := [(2, .int 0), (0, .ref p0), (1, .int p1)]) dX12_clears_1 rfl (by decide) rfl ?_
  refine a_pick (lc2 := [(0, .ref p0), (1, .int p1), (2, .int 0)]) [1, 2, 0] rfl ?_
  exact t_X12_clears_b2 h0 N N h0 p0 p1 0
theorem dX12_spotOf_0 : decode cX12_spotOf 0 = .ok (.bipush 16, 2) := by decide +kernel
theorem dX12_spotOf_2 : decode cX12_spotOf 2 = .ok (.iload_n 0, 1) := by decide +kernel
theorem dX12_spotOf_3 : decode cX12_spotOf 3 = .ok (.imul, 1) := by decide +kernel
theorem dX12_spotOf_4 : decode cX12_spotOf 4 = .ok (.iload_n 1, 1) := by decide +kernel
theorem dX12_spotOf_5 : decode cX12_spotOf 5 = .ok (.iadd, 1) := by decide +kernel
theorem dX12_spotOf_6 : decode cX12_spotOf 6 = .ok (.bipush 12, 2) := by decide +kernel
theorem dX12_spotOf_8 : decode cX12_spotOf 8 = .ok (.imul, 1) := by decide +kernel
theorem dX12_spotOf_9 : decode cX12_spotOf 9 = .ok (.iload_n 2, 1) := by decide +kernel
theorem dX12_spotOf_10 : decode cX12_spotOf 10 = .ok (.iadd, 1) := by decide +kernel
theorem dX12_spotOf_11 : decode cX12_spotOf 11 = .ok (.ireturn, 1) := by decide +kernel
abbrev M_X12_spotOf : MI := (RX12, cX12_spotOf, 3, (some .int), ({ frames := 0, cells := 0, slots := 0, locals := 0 } : Room), 0, 0, false)
def f_X12_spotOf (h : AH) (p0 : Int32) (p1 : Int32) (p2 : Int32) : Option Int32 := some ((((16 * p0) + p1) * 12) + p2)
theorem km_X12_spotOf : KM yX12_spotOf M_X12_spotOf 3 := ⟨in_tb 1462 (by decide +kernel) rfl, in_tb 9 (by decide +kernel) rfl, by decide +kernel, rfl, rfl⟩
theorem hm_X12_spotOf : M_X12_spotOf.2.2.2.2.2.1 = 0 ∧ M_X12_spotOf.2.2.2.2.2.2.1 = 0 := ⟨rfl, rfl⟩
section
variable {l : Launch} {g : GG}
end
set_option maxRecDepth 100000 in
set_option maxHeartbeats 4000000 in
theorem c_X12_spotOf (l : Launch) (g : GG) (h : AH) (p0 : Int32) (p1 : Int32) (p2 : Int32) : CN l g yX12_spotOf M_X12_spotOf false [.int p0, .int p1, .int p2] h ((rPi h)) (f_X12_spotOf h p0 p1 p2) := by
  refine CN.of (by decide) rfl (fun hh => by first | rfl | cases hh) (Nat.le_of_ble_eq_true rfl) ?_
  unfold f_X12_spotOf
  refine a_bipush (v := 16) dX12_spotOf_0 (by decide) ?_
  refine a_iload_n dX12_spotOf_2 rfl 0 rfl ?_
  refine a_imul dX12_spotOf_3 ?_
  refine a_iload_n dX12_spotOf_4 rfl 1 rfl ?_
  refine a_iadd dX12_spotOf_5 ?_
  refine a_bipush (v := 12) dX12_spotOf_6 (by decide) ?_
  refine a_imul dX12_spotOf_8 ?_
  refine a_iload_n dX12_spotOf_9 rfl 2 rfl ?_
  refine a_iadd dX12_spotOf_10 ?_
  exact a_iret dX12_spotOf_11 rfl rfl (by decide) (by decide)
theorem dX12_tells_0 : decode cX12_tells 0 = .ok (.aload_n 0, 1) := by decide +kernel
theorem dX12_tells_1 : decode cX12_tells 1 = .ok (.getfield 30, 3) := by decide +kernel
theorem dX12_tells_4 : decode cX12_tells 4 = .ok (.aload_n 0, 1) := by decide +kernel
theorem dX12_tells_5 : decode cX12_tells 5 = .ok (.getfield 228, 3) := by decide +kernel
theorem dX12_tells_8 : decode cX12_tells 8 = .ok (.iload_n 1, 1) := by decide +kernel
theorem dX12_tells_9 : decode cX12_tells 9 = .ok (.bastore, 1) := by decide +kernel
theorem dX12_tells_10 : decode cX12_tells 10 = .ok (.aload_n 0, 1) := by decide +kernel
theorem dX12_tells_11 : decode cX12_tells 11 = .ok (.getfield 34, 3) := by decide +kernel
theorem dX12_tells_14 : decode cX12_tells 14 = .ok (.aload_n 0, 1) := by decide +kernel
theorem dX12_tells_15 : decode cX12_tells 15 = .ok (.getfield 228, 3) := by decide +kernel
theorem dX12_tells_18 : decode cX12_tells 18 = .ok (.iload_n 2, 1) := by decide +kernel
theorem dX12_tells_19 : decode cX12_tells 19 = .ok (.iastore, 1) := by decide +kernel
theorem dX12_tells_20 : decode cX12_tells 20 = .ok (.aload_n 0, 1) := by decide +kernel
theorem dX12_tells_21 : decode cX12_tells 21 = .ok (.getfield 37, 3) := by decide +kernel
theorem dX12_tells_24 : decode cX12_tells 24 = .ok (.aload_n 0, 1) := by decide +kernel
theorem dX12_tells_25 : decode cX12_tells 25 = .ok (.getfield 228, 3) := by decide +kernel
theorem dX12_tells_28 : decode cX12_tells 28 = .ok (.iload_n 3, 1) := by decide +kernel
theorem dX12_tells_29 : decode cX12_tells 29 = .ok (.iastore, 1) := by decide +kernel
theorem dX12_tells_30 : decode cX12_tells 30 = .ok (.aload_n 0, 1) := by decide +kernel
theorem dX12_tells_31 : decode cX12_tells 31 = .ok (.dup, 1) := by decide +kernel
theorem dX12_tells_32 : decode cX12_tells 32 = .ok (.getfield 228, 3) := by decide +kernel
theorem dX12_tells_35 : decode cX12_tells 35 = .ok (.iconst 1, 1) := by decide +kernel
theorem dX12_tells_36 : decode cX12_tells 36 = .ok (.iadd, 1) := by decide +kernel
theorem dX12_tells_37 : decode cX12_tells 37 = .ok (.putfield 228, 3) := by decide +kernel
theorem dX12_tells_40 : decode cX12_tells 40 = .ok (.iload_n 1, 1) := by decide +kernel
theorem dX12_tells_41 : decode cX12_tells 41 = .ok (.ifCond .eq 13, 3) := by decide +kernel
theorem dX12_tells_44 : decode cX12_tells 44 = .ok (.aload_n 0, 1) := by decide +kernel
theorem dX12_tells_45 : decode cX12_tells 45 = .ok (.getfield 43, 3) := by decide +kernel
theorem dX12_tells_48 : decode cX12_tells 48 = .ok (.iload_n 2, 1) := by decide +kernel
theorem dX12_tells_49 : decode cX12_tells 49 = .ok (.iload_n 3, 1) := by decide +kernel
theorem dX12_tells_50 : decode cX12_tells 50 = .ok (.iastore, 1) := by decide +kernel
theorem dX12_tells_51 : decode cX12_tells 51 = .ok (.goto 10, 3) := by decide +kernel
theorem dX12_tells_54 : decode cX12_tells 54 = .ok (.aload_n 0, 1) := by decide +kernel
theorem dX12_tells_55 : decode cX12_tells 55 = .ok (.getfield 40, 3) := by decide +kernel
theorem dX12_tells_58 : decode cX12_tells 58 = .ok (.iload_n 2, 1) := by decide +kernel
theorem dX12_tells_59 : decode cX12_tells 59 = .ok (.iload_n 3, 1) := by decide +kernel
theorem dX12_tells_60 : decode cX12_tells 60 = .ok (.iastore, 1) := by decide +kernel
theorem dX12_tells_61 : decode cX12_tells 61 = .ok (.return_, 1) := by decide +kernel
abbrev M_X12_tells : MI := (RX12, cX12_tells, 4, none, ({ frames := 0, cells := 0, slots := 0, locals := 0 } : Room), 0, 0, false)
def f_X12_tells (h0 : AH) (p0 : Nat) (p1 : Int32) (p2 : Int32) (p3 : Int32) : Option AH := if kd h0 p0 = 13 + 1 then (xgr h0 p0 13 8).bind fun v1 => (xgi h0 p0 13 7).bind fun v2 => (xbs h0 v1 v2 p1).bind fun h3 => (xgr h3 p0 13 9).bind fun v4 => (xgi h3 p0 13 7).bind fun v5 => (xis h3 v4 v5 p2).bind fun h6 => (xgr h6 p0 13 10).bind fun v7 => (xgi h6 p0 13 7).bind fun v8 => (xis h6 v7 v8 p3).bind fun h9 => (xgi h9 p0 13 7).bind fun v10 => (xpi h9 p0 13 7 (v10 + 1)).bind fun h11 => (if p1 = 0 then (xgr h11 p0 13 11).bind fun v13 => (xis h11 v13 p2 p3).bind fun h14 => some h14 else (xgr h11 p0 13 12).bind fun v15 => (xis h11 v15 p2 p3).bind fun h16 => some h16) else none
theorem g_X12_tells {h0 : AH} {p0 : Nat} {p1 : Int32} {p2 : Int32} {p3 : Int32} {x : AH} (e : f_X12_tells h0 p0 p1 p2 p3 = some x) : kd h0 p0 = 13 + 1 := by
  unfold f_X12_tells at e
  by_cases hk : kd h0 p0 = 13 + 1
  · exact hk
  · rw [if_neg hk] at e
    cases e
theorem km_X12_tells : KM yX12_tells M_X12_tells 3 := ⟨in_tb 1466 (by decide +kernel) rfl, in_tb 9 (by decide +kernel) rfl, by decide +kernel, rfl, rfl⟩
theorem hm_X12_tells : M_X12_tells.2.2.2.2.2.1 = 0 ∧ M_X12_tells.2.2.2.2.2.2.1 = 0 := ⟨rfl, rfl⟩
section
variable {l : Launch} {g : GG}
end
set_option maxRecDepth 100000 in
set_option maxHeartbeats 4000000 in
theorem c_X12_tells (l : Launch) (g : GG) (h0 : AH) (p0 : Nat) (p1 : Int32) (p2 : Int32) (p3 : Int32) : CN l g yX12_tells M_X12_tells false [.ref p0, .int p1, .int p2, .int p3] h0 rSv (f_X12_tells h0 p0 p1 p2 p3) := by
  refine CN.of (by decide) rfl (fun hh => by first | rfl | cases hh) (Nat.le_of_ble_eq_true rfl) ?_
  unfold f_X12_tells
  refine a_gd (fun hkd => ?_)
  refine a_aload_n dX12_tells_0 rfl 0 rfl ?_
  refine a_getr kc13 8 dX12_tells_1 (by decide) rfl w_fieldLink_RainCoverModel_30 (fun v1 => ?_)
  refine a_aload_n dX12_tells_4 rfl 0 rfl ?_
  refine a_geti kc13 7 dX12_tells_5 (by decide) rfl w_fieldLink_RainCoverModel_228 (fun v2 => ?_)
  refine a_iload_n dX12_tells_8 rfl 1 rfl ?_
  refine a_bast dX12_tells_9 (fun h3 => ?_)
  refine a_aload_n dX12_tells_10 rfl 0 rfl ?_
  refine a_getr kc13 9 dX12_tells_11 (by decide) rfl w_fieldLink_RainCoverModel_34 (fun v4 => ?_)
  refine a_aload_n dX12_tells_14 rfl 0 rfl ?_
  refine a_geti kc13 7 dX12_tells_15 (by decide) rfl w_fieldLink_RainCoverModel_228 (fun v5 => ?_)
  refine a_iload_n dX12_tells_18 rfl 2 rfl ?_
  refine a_iast dX12_tells_19 (fun h6 => ?_)
  refine a_aload_n dX12_tells_20 rfl 0 rfl ?_
  refine a_getr kc13 10 dX12_tells_21 (by decide) rfl w_fieldLink_RainCoverModel_37 (fun v7 => ?_)
  refine a_aload_n dX12_tells_24 rfl 0 rfl ?_
  refine a_geti kc13 7 dX12_tells_25 (by decide) rfl w_fieldLink_RainCoverModel_228 (fun v8 => ?_)
  refine a_iload_n dX12_tells_28 rfl 3 rfl ?_
  refine a_iast dX12_tells_29 (fun h9 => ?_)
  refine a_aload_n dX12_tells_30 rfl 0 rfl ?_
  refine a_dup dX12_tells_31 rfl ?_
  refine a_geti kc13 7 dX12_tells_32 (by decide) rfl w_fieldLink_RainCoverModel_228 (fun v10 => ?_)
  refine a_iconst (v := 1) dX12_tells_35 (by decide) ?_
  refine a_iadd dX12_tells_36 ?_
  refine a_puti kc13 7 dX12_tells_37 (by decide) rfl w_fieldLink_RainCoverModel_228 rfl rfl (fun h11 => ?_)
  refine a_iload_n dX12_tells_40 rfl 1 rfl ?_
  refine a_if_eq 54 dX12_tells_41 (by decide) (fun c12 => ?_) (fun c12 => ?_)
  · refine a_aload_n dX12_tells_54 rfl 0 rfl ?_
    refine a_getr kc13 11 dX12_tells_55 (by decide) rfl w_fieldLink_RainCoverModel_40 (fun v13 => ?_)
    refine a_iload_n dX12_tells_58 rfl 2 rfl ?_
    refine a_iload_n dX12_tells_59 rfl 3 rfl ?_
    refine a_iast dX12_tells_60 (fun h14 => ?_)
    exact a_vret dX12_tells_61 rfl rfl (by decide) (by decide)
  · refine a_aload_n dX12_tells_44 rfl 0 rfl ?_
    refine a_getr kc13 12 dX12_tells_45 (by decide) rfl w_fieldLink_RainCoverModel_43 (fun v15 => ?_)
    refine a_iload_n dX12_tells_48 rfl 2 rfl ?_
    refine a_iload_n dX12_tells_49 rfl 3 rfl ?_
    refine a_iast dX12_tells_50 (fun h16 => ?_)
    refine a_goto 61 dX12_tells_51 (by decide) ?_
    exact a_vret dX12_tells_61 rfl rfl (by decide) (by decide)
theorem dX12_rain_0 : decode cX12_rain 0 = .ok (.aload_n 0, 1) := by decide +kernel
theorem dX12_rain_1 : decode cX12_rain 1 = .ok (.iload_n 1, 1) := by decide +kernel
theorem dX12_rain_2 : decode cX12_rain 2 = .ok (.invokevirtual 225, 3) := by decide +kernel
theorem dX12_rain_5 : decode cX12_rain 5 = .ok (.ifCond .eq 17, 3) := by decide +kernel
theorem dX12_rain_8 : decode cX12_rain 8 = .ok (.iload_n 2, 1) := by decide +kernel
theorem dX12_rain_9 : decode cX12_rain 9 = .ok (.invokestatic 221, 3) := by decide +kernel
theorem dX12_rain_12 : decode cX12_rain 12 = .ok (.ifCond .eq 10, 3) := by decide +kernel
theorem dX12_rain_15 : decode cX12_rain 15 = .ok (.iload_n 3, 1) := by decide +kernel
theorem dX12_rain_16 : decode cX12_rain 16 = .ok (.invokestatic 231, 3) := by decide +kernel
theorem dX12_rain_19 : decode cX12_rain 19 = .ok (.ifCond .ne 5, 3) := by decide +kernel
theorem dX12_rain_22 : decode cX12_rain 22 = .ok (.iconst (-1), 1) := by decide +kernel
theorem dX12_rain_23 : decode cX12_rain 23 = .ok (.ireturn, 1) := by decide +kernel
theorem dX12_rain_24 : decode cX12_rain 24 = .ok (.iload 4, 2) := by decide +kernel
theorem dX12_rain_26 : decode cX12_rain 26 = .ok (.iconst (-1), 1) := by decide +kernel
theorem dX12_rain_27 : decode cX12_rain 27 = .ok (.sipush 9999, 3) := by decide +kernel
theorem dX12_rain_30 : decode cX12_rain 30 = .ok (.invokestatic 204, 3) := by decide +kernel
theorem dX12_rain_33 : decode cX12_rain 33 = .ok (.ifCond .ne 6, 3) := by decide +kernel
theorem dX12_rain_36 : decode cX12_rain 36 = .ok (.bipush (-2), 2) := by decide +kernel
theorem dX12_rain_38 : decode cX12_rain 38 = .ok (.ireturn, 1) := by decide +kernel
theorem dX12_rain_39 : decode cX12_rain 39 = .ok (.aload_n 0, 1) := by decide +kernel
theorem dX12_rain_40 : decode cX12_rain 40 = .ok (.getfield 228, 3) := by decide +kernel
theorem dX12_rain_43 : decode cX12_rain 43 = .ok (.sipush 700, 3) := by decide +kernel
theorem dX12_rain_46 : decode cX12_rain 46 = .ok (.if_icmp .ne 6, 3) := by decide +kernel
theorem dX12_rain_49 : decode cX12_rain 49 = .ok (.bipush (-4), 2) := by decide +kernel
theorem dX12_rain_51 : decode cX12_rain 51 = .ok (.ireturn, 1) := by decide +kernel
theorem dX12_rain_52 : decode cX12_rain 52 = .ok (.aload_n 0, 1) := by decide +kernel
theorem dX12_rain_53 : decode cX12_rain 53 = .ok (.iconst 0, 1) := by decide +kernel
theorem dX12_rain_54 : decode cX12_rain 54 = .ok (.iload_n 1, 1) := by decide +kernel
theorem dX12_rain_55 : decode cX12_rain 55 = .ok (.iload_n 2, 1) := by decide +kernel
theorem dX12_rain_56 : decode cX12_rain 56 = .ok (.iload_n 3, 1) := by decide +kernel
theorem dX12_rain_57 : decode cX12_rain 57 = .ok (.invokestatic 234, 3) := by decide +kernel
theorem dX12_rain_60 : decode cX12_rain 60 = .ok (.iload 4, 2) := by decide +kernel
theorem dX12_rain_62 : decode cX12_rain 62 = .ok (.invokevirtual 238, 3) := by decide +kernel
theorem dX12_rain_65 : decode cX12_rain 65 = .ok (.aload_n 0, 1) := by decide +kernel
theorem dX12_rain_66 : decode cX12_rain 66 = .ok (.getfield 228, 3) := by decide +kernel
theorem dX12_rain_69 : decode cX12_rain 69 = .ok (.ireturn, 1) := by decide +kernel
abbrev M_X12_rain : MI := (RX12, cX12_rain, 5, (some .int), ({ frames := 2, cells := 0, slots := 0, locals := 43 } : Room), 0, 0, false)
def f_X12_rain (h0 : AH) (p0 : Nat) (p1 : Int32) (p2 : Int32) (p3 : Int32) (p4 : Int32) : Option (Int32 × AH) := if kd h0 p0 = 13 + 1 then (f_X12_isGauge h0 p0 p1).bind fun v1 => (if v1 = 0 then some ((-1), h0) else (f_X12_isSeason h0 p2).bind fun v3 => (if v3 = 0 then some ((-1), h0) else (f_X12_isWeek h0 p3).bind fun v5 => (if v5 = 0 then some ((-1), h0) else (f_X12_in h0 p4 (-1) 9999).bind fun v7 => (if v7 = 0 then some ((-2), h0) else (xgi h0 p0 13 7).bind fun v9 => (if v9 = 700 then some ((-4), h0) else (f_X12_spotOf h0 p1 p2 p3).bind fun v11 => (f_X12_tells h0 p0 0 v11 p4).bind fun q12 => (xgi q12 p0 13 7).bind fun v13 => some (v13, q12)))))) else none
theorem g_X12_rain {h0 : AH} {p0 : Nat} {p1 : Int32} {p2 : Int32} {p3 : Int32} {p4 : Int32} {x : (Int32 × AH)} (e : f_X12_rain h0 p0 p1 p2 p3 p4 = some x) : kd h0 p0 = 13 + 1 := by
  unfold f_X12_rain at e
  by_cases hk : kd h0 p0 = 13 + 1
  · exact hk
  · rw [if_neg hk] at e
    cases e
theorem km_X12_rain : KM yX12_rain M_X12_rain 4 := ⟨in_tb 1456 (by decide +kernel) rfl, in_tb 9 (by decide +kernel) rfl, by decide +kernel, rfl, rfl⟩
theorem hm_X12_rain : M_X12_rain.2.2.2.2.2.1 = 0 ∧ M_X12_rain.2.2.2.2.2.2.1 = 0 := ⟨rfl, rfl⟩
section
variable {l : Launch} {g : GG}
end
set_option maxRecDepth 100000 in
set_option maxHeartbeats 4000000 in
theorem c_X12_rain (l : Launch) (g : GG) (h0 : AH) (p0 : Nat) (p1 : Int32) (p2 : Int32) (p3 : Int32) (p4 : Int32) : CN l g yX12_rain M_X12_rain false [.ref p0, .int p1, .int p2, .int p3, .int p4] h0 rSi (f_X12_rain h0 p0 p1 p2 p3 p4) := by
  refine CN.of (by decide) rfl (fun hh => by first | rfl | cases hh) (Nat.le_of_ble_eq_true rfl) ?_
  unfold f_X12_rain
  refine a_gd (fun hkd => ?_)
  refine a_aload_n dX12_rain_0 rfl 0 rfl ?_
  refine a_iload_n dX12_rain_1 rfl 1 rfl ?_
  refine a_cV_Pi (r := p0) (ci := 13) (as := [.int p1]) (st := []) dX12_rain_2 (c_X12_isGauge l g h0 p0 p1) rfl km_X12_isGauge (hm_X12_isGauge) rfl (by decide) rfl (fun _ ee => g_X12_isGauge ee) w_methodLink_RainCoverModel_225 w_instanceMethod_RainCoverModel_isGauge__I_Z w_selects_RainCoverModel_RainCoverModel_isGauge__I_Z_RainCoverModel_isGauge__I_Z ⟨⟨by decide, by decide⟩, ⟨by decide, by decide⟩⟩ (Nat.le_of_ble_eq_true rfl) (fun v1 => ?_)
  refine a_if_eq 22 dX12_rain_5 (by decide) (fun c2 => ?_) (fun c2 => ?_)
  · refine a_iconst (v := (-1)) dX12_rain_22 (by decide) ?_
    exact a_iret dX12_rain_23 rfl rfl (by decide) (by decide)
  · refine a_iload_n dX12_rain_8 rfl 2 rfl ?_
    refine a_cS_Pi (as := [.int p2]) (st := []) dX12_rain_9 (c_X12_isSeason l g h0 p2) rfl km_X12_isSeason (hm_X12_isSeason) w_methodLink_RainCoverModel_221 w_static_RainCoverModel_isSeason__I_Z ⟨⟨by decide, by decide⟩, ⟨by decide, by decide⟩⟩ (Nat.le_of_ble_eq_true rfl) (fun v3 => ?_)
    refine a_if_eq 22 dX12_rain_12 (by decide) (fun c4 => ?_) (fun c4 => ?_)
    · refine a_iconst (v := (-1)) dX12_rain_22 (by decide) ?_
      exact a_iret dX12_rain_23 rfl rfl (by decide) (by decide)
    · refine a_iload_n dX12_rain_15 rfl 3 rfl ?_
      refine a_cS_Pi (as := [.int p3]) (st := []) dX12_rain_16 (c_X12_isWeek l g h0 p3) rfl km_X12_isWeek (hm_X12_isWeek) w_methodLink_RainCoverModel_231 w_static_RainCoverModel_isWeek__I_Z ⟨⟨by decide, by decide⟩, ⟨by decide, by decide⟩⟩ (Nat.le_of_ble_eq_true rfl) (fun v5 => ?_)
      refine a_if_ne 24 dX12_rain_19 (by decide) (fun c6 => ?_) (fun c6 => ?_)
      · refine a_iconst (v := (-1)) dX12_rain_22 (by decide) ?_
        exact a_iret dX12_rain_23 rfl rfl (by decide) (by decide)
      · refine a_iload dX12_rain_24 4 rfl ?_
        refine a_iconst (v := (-1)) dX12_rain_26 (by decide) ?_
        refine a_sipush (v := 9999) dX12_rain_27 (by decide) ?_
        refine a_cS_Pi (as := [.int p4, .int (-1), .int 9999]) (st := []) dX12_rain_30 (c_X12_in l g h0 p4 (-1) 9999) rfl km_X12_in (hm_X12_in) w_methodLink_RainCoverModel_204 w_static_RainCoverModel_in__III_Z ⟨⟨by decide, by decide⟩, ⟨by decide, by decide⟩⟩ (Nat.le_of_ble_eq_true rfl) (fun v7 => ?_)
        refine a_if_ne 39 dX12_rain_33 (by decide) (fun c8 => ?_) (fun c8 => ?_)
        · refine a_bipush (v := (-2)) dX12_rain_36 (by decide) ?_
          exact a_iret dX12_rain_38 rfl rfl (by decide) (by decide)
        · refine a_aload_n dX12_rain_39 rfl 0 rfl ?_
          refine a_geti kc13 7 dX12_rain_40 (by decide) rfl w_fieldLink_RainCoverModel_228 (fun v9 => ?_)
          refine a_sipush (v := 700) dX12_rain_43 (by decide) ?_
          refine a_icmp_ne 52 dX12_rain_46 (by decide) (fun c10 => ?_) (fun c10 => ?_)
          · refine a_bipush (v := (-4)) dX12_rain_49 (by decide) ?_
            exact a_iret dX12_rain_51 rfl rfl (by decide) (by decide)
          · refine a_aload_n dX12_rain_52 rfl 0 rfl ?_
            refine a_iconst (v := 0) dX12_rain_53 (by decide) ?_
            refine a_iload_n dX12_rain_54 rfl 1 rfl ?_
            refine a_iload_n dX12_rain_55 rfl 2 rfl ?_
            refine a_iload_n dX12_rain_56 rfl 3 rfl ?_
            refine a_cS_Pi (as := [.int p1, .int p2, .int p3]) (st := [.int 0, .ref p0]) dX12_rain_57 (c_X12_spotOf l g h0 p1 p2 p3) rfl km_X12_spotOf (hm_X12_spotOf) w_methodLink_RainCoverModel_234 w_static_RainCoverModel_spotOf__III_I ⟨⟨by decide, by decide⟩, ⟨by decide, by decide⟩⟩ (Nat.le_of_ble_eq_true rfl) (fun v11 => ?_)
            refine a_iload dX12_rain_60 4 rfl ?_
            refine a_cV_Sv (r := p0) (ci := 13) (as := [.int 0, .int v11, .int p4]) (st := []) dX12_rain_62 (c_X12_tells l g h0 p0 0 v11 p4) rfl km_X12_tells (hm_X12_tells) rfl (by decide) rfl (fun _ ee => g_X12_tells ee) w_methodLink_RainCoverModel_238 w_instanceMethod_RainCoverModel_tells__ZII_V w_selects_RainCoverModel_RainCoverModel_tells__ZII_V_RainCoverModel_tells__ZII_V ⟨⟨by decide, by decide⟩, ⟨by decide, by decide⟩⟩ (Nat.le_of_ble_eq_true rfl) (fun q12 => ?_)
            refine a_aload_n dX12_rain_65 rfl 0 rfl ?_
            refine a_geti kc13 7 dX12_rain_66 (by decide) rfl w_fieldLink_RainCoverModel_228 (fun v13 => ?_)
            exact a_iret dX12_rain_69 rfl rfl (by decide) (by decide)
theorem dX12_green_0 : decode cX12_green 0 = .ok (.iload_n 1, 1) := by decide +kernel
theorem dX12_green_1 : decode cX12_green 1 = .ok (.iconst 0, 1) := by decide +kernel
theorem dX12_green_2 : decode cX12_green 2 = .ok (.iconst 3, 1) := by decide +kernel
theorem dX12_green_3 : decode cX12_green 3 = .ok (.invokestatic 204, 3) := by decide +kernel
theorem dX12_green_6 : decode cX12_green 6 = .ok (.ifCond .eq 17, 3) := by decide +kernel
theorem dX12_green_9 : decode cX12_green 9 = .ok (.iload_n 2, 1) := by decide +kernel
theorem dX12_green_10 : decode cX12_green 10 = .ok (.invokestatic 221, 3) := by decide +kernel
theorem dX12_green_13 : decode cX12_green 13 = .ok (.ifCond .eq 10, 3) := by decide +kernel
theorem dX12_green_16 : decode cX12_green 16 = .ok (.iload_n 3, 1) := by decide +kernel
theorem dX12_green_17 : decode cX12_green 17 = .ok (.invokestatic 231, 3) := by decide +kernel
theorem dX12_green_20 : decode cX12_green 20 = .ok (.ifCond .ne 5, 3) := by decide +kernel
theorem dX12_green_23 : decode cX12_green 23 = .ok (.iconst (-1), 1) := by decide +kernel
theorem dX12_green_24 : decode cX12_green 24 = .ok (.ireturn, 1) := by decide +kernel
theorem dX12_green_25 : decode cX12_green 25 = .ok (.iload 4, 2) := by decide +kernel
theorem dX12_green_27 : decode cX12_green 27 = .ok (.iconst (-1), 1) := by decide +kernel
theorem dX12_green_28 : decode cX12_green 28 = .ok (.bipush 100, 2) := by decide +kernel
theorem dX12_green_30 : decode cX12_green 30 = .ok (.invokestatic 204, 3) := by decide +kernel
theorem dX12_green_33 : decode cX12_green 33 = .ok (.ifCond .ne 6, 3) := by decide +kernel
theorem dX12_green_36 : decode cX12_green 36 = .ok (.bipush (-2), 2) := by decide +kernel
theorem dX12_green_38 : decode cX12_green 38 = .ok (.ireturn, 1) := by decide +kernel
theorem dX12_green_39 : decode cX12_green 39 = .ok (.aload_n 0, 1) := by decide +kernel
theorem dX12_green_40 : decode cX12_green 40 = .ok (.getfield 228, 3) := by decide +kernel
theorem dX12_green_43 : decode cX12_green 43 = .ok (.sipush 700, 3) := by decide +kernel
theorem dX12_green_46 : decode cX12_green 46 = .ok (.if_icmp .ne 6, 3) := by decide +kernel
theorem dX12_green_49 : decode cX12_green 49 = .ok (.bipush (-4), 2) := by decide +kernel
theorem dX12_green_51 : decode cX12_green 51 = .ok (.ireturn, 1) := by decide +kernel
theorem dX12_green_52 : decode cX12_green 52 = .ok (.aload_n 0, 1) := by decide +kernel
theorem dX12_green_53 : decode cX12_green 53 = .ok (.iconst 1, 1) := by decide +kernel
theorem dX12_green_54 : decode cX12_green 54 = .ok (.iload_n 1, 1) := by decide +kernel
theorem dX12_green_55 : decode cX12_green 55 = .ok (.iload_n 2, 1) := by decide +kernel
theorem dX12_green_56 : decode cX12_green 56 = .ok (.iload_n 3, 1) := by decide +kernel
theorem dX12_green_57 : decode cX12_green 57 = .ok (.invokestatic 234, 3) := by decide +kernel
theorem dX12_green_60 : decode cX12_green 60 = .ok (.iload 4, 2) := by decide +kernel
theorem dX12_green_62 : decode cX12_green 62 = .ok (.invokevirtual 238, 3) := by decide +kernel
theorem dX12_green_65 : decode cX12_green 65 = .ok (.aload_n 0, 1) := by decide +kernel
theorem dX12_green_66 : decode cX12_green 66 = .ok (.getfield 228, 3) := by decide +kernel
theorem dX12_green_69 : decode cX12_green 69 = .ok (.ireturn, 1) := by decide +kernel
abbrev M_X12_green : MI := (RX12, cX12_green, 5, (some .int), ({ frames := 2, cells := 0, slots := 0, locals := 42 } : Room), 0, 0, false)
def f_X12_green (h0 : AH) (p0 : Nat) (p1 : Int32) (p2 : Int32) (p3 : Int32) (p4 : Int32) : Option (Int32 × AH) := if kd h0 p0 = 13 + 1 then (f_X12_in h0 p1 0 3).bind fun v1 => (if v1 = 0 then some ((-1), h0) else (f_X12_isSeason h0 p2).bind fun v3 => (if v3 = 0 then some ((-1), h0) else (f_X12_isWeek h0 p3).bind fun v5 => (if v5 = 0 then some ((-1), h0) else (f_X12_in h0 p4 (-1) 100).bind fun v7 => (if v7 = 0 then some ((-2), h0) else (xgi h0 p0 13 7).bind fun v9 => (if v9 = 700 then some ((-4), h0) else (f_X12_spotOf h0 p1 p2 p3).bind fun v11 => (f_X12_tells h0 p0 1 v11 p4).bind fun q12 => (xgi q12 p0 13 7).bind fun v13 => some (v13, q12)))))) else none
theorem g_X12_green {h0 : AH} {p0 : Nat} {p1 : Int32} {p2 : Int32} {p3 : Int32} {p4 : Int32} {x : (Int32 × AH)} (e : f_X12_green h0 p0 p1 p2 p3 p4 = some x) : kd h0 p0 = 13 + 1 := by
  unfold f_X12_green at e
  by_cases hk : kd h0 p0 = 13 + 1
  · exact hk
  · rw [if_neg hk] at e
    cases e
theorem km_X12_green : KM yX12_green M_X12_green 4 := ⟨in_tb 1470 (by decide +kernel) rfl, in_tb 9 (by decide +kernel) rfl, by decide +kernel, rfl, rfl⟩
theorem hm_X12_green : M_X12_green.2.2.2.2.2.1 = 0 ∧ M_X12_green.2.2.2.2.2.2.1 = 0 := ⟨rfl, rfl⟩
section
variable {l : Launch} {g : GG}
end
set_option maxRecDepth 100000 in
set_option maxHeartbeats 4000000 in
theorem c_X12_green (l : Launch) (g : GG) (h0 : AH) (p0 : Nat) (p1 : Int32) (p2 : Int32) (p3 : Int32) (p4 : Int32) : CN l g yX12_green M_X12_green false [.ref p0, .int p1, .int p2, .int p3, .int p4] h0 rSi (f_X12_green h0 p0 p1 p2 p3 p4) := by
  refine CN.of (by decide) rfl (fun hh => by first | rfl | cases hh) (Nat.le_of_ble_eq_true rfl) ?_
  unfold f_X12_green
  refine a_gd (fun hkd => ?_)
  refine a_iload_n dX12_green_0 rfl 1 rfl ?_
  refine a_iconst (v := 0) dX12_green_1 (by decide) ?_
  refine a_iconst (v := 3) dX12_green_2 (by decide) ?_
  refine a_cS_Pi (as := [.int p1, .int 0, .int 3]) (st := []) dX12_green_3 (c_X12_in l g h0 p1 0 3) rfl km_X12_in (hm_X12_in) w_methodLink_RainCoverModel_204 w_static_RainCoverModel_in__III_Z ⟨⟨by decide, by decide⟩, ⟨by decide, by decide⟩⟩ (Nat.le_of_ble_eq_true rfl) (fun v1 => ?_)
  refine a_if_eq 23 dX12_green_6 (by decide) (fun c2 => ?_) (fun c2 => ?_)
  · refine a_iconst (v := (-1)) dX12_green_23 (by decide) ?_
    exact a_iret dX12_green_24 rfl rfl (by decide) (by decide)
  · refine a_iload_n dX12_green_9 rfl 2 rfl ?_
    refine a_cS_Pi (as := [.int p2]) (st := []) dX12_green_10 (c_X12_isSeason l g h0 p2) rfl km_X12_isSeason (hm_X12_isSeason) w_methodLink_RainCoverModel_221 w_static_RainCoverModel_isSeason__I_Z ⟨⟨by decide, by decide⟩, ⟨by decide, by decide⟩⟩ (Nat.le_of_ble_eq_true rfl) (fun v3 => ?_)
    refine a_if_eq 23 dX12_green_13 (by decide) (fun c4 => ?_) (fun c4 => ?_)
    · refine a_iconst (v := (-1)) dX12_green_23 (by decide) ?_
      exact a_iret dX12_green_24 rfl rfl (by decide) (by decide)
    · refine a_iload_n dX12_green_16 rfl 3 rfl ?_
      refine a_cS_Pi (as := [.int p3]) (st := []) dX12_green_17 (c_X12_isWeek l g h0 p3) rfl km_X12_isWeek (hm_X12_isWeek) w_methodLink_RainCoverModel_231 w_static_RainCoverModel_isWeek__I_Z ⟨⟨by decide, by decide⟩, ⟨by decide, by decide⟩⟩ (Nat.le_of_ble_eq_true rfl) (fun v5 => ?_)
      refine a_if_ne 25 dX12_green_20 (by decide) (fun c6 => ?_) (fun c6 => ?_)
      · refine a_iconst (v := (-1)) dX12_green_23 (by decide) ?_
        exact a_iret dX12_green_24 rfl rfl (by decide) (by decide)
      · refine a_iload dX12_green_25 4 rfl ?_
        refine a_iconst (v := (-1)) dX12_green_27 (by decide) ?_
        refine a_bipush (v := 100) dX12_green_28 (by decide) ?_
        refine a_cS_Pi (as := [.int p4, .int (-1), .int 100]) (st := []) dX12_green_30 (c_X12_in l g h0 p4 (-1) 100) rfl km_X12_in (hm_X12_in) w_methodLink_RainCoverModel_204 w_static_RainCoverModel_in__III_Z ⟨⟨by decide, by decide⟩, ⟨by decide, by decide⟩⟩ (Nat.le_of_ble_eq_true rfl) (fun v7 => ?_)
        refine a_if_ne 39 dX12_green_33 (by decide) (fun c8 => ?_) (fun c8 => ?_)
        · refine a_bipush (v := (-2)) dX12_green_36 (by decide) ?_
          exact a_iret dX12_green_38 rfl rfl (by decide) (by decide)
        · refine a_aload_n dX12_green_39 rfl 0 rfl ?_
          refine a_geti kc13 7 dX12_green_40 (by decide) rfl w_fieldLink_RainCoverModel_228 (fun v9 => ?_)
          refine a_sipush (v := 700) dX12_green_43 (by decide) ?_
          refine a_icmp_ne 52 dX12_green_46 (by decide) (fun c10 => ?_) (fun c10 => ?_)
          · refine a_bipush (v := (-4)) dX12_green_49 (by decide) ?_
            exact a_iret dX12_green_51 rfl rfl (by decide) (by decide)
          · refine a_aload_n dX12_green_52 rfl 0 rfl ?_
            refine a_iconst (v := 1) dX12_green_53 (by decide) ?_
            refine a_iload_n dX12_green_54 rfl 1 rfl ?_
            refine a_iload_n dX12_green_55 rfl 2 rfl ?_
            refine a_iload_n dX12_green_56 rfl 3 rfl ?_
            refine a_cS_Pi (as := [.int p1, .int p2, .int p3]) (st := [.int 1, .ref p0]) dX12_green_57 (c_X12_spotOf l g h0 p1 p2 p3) rfl km_X12_spotOf (hm_X12_spotOf) w_methodLink_RainCoverModel_234 w_static_RainCoverModel_spotOf__III_I ⟨⟨by decide, by decide⟩, ⟨by decide, by decide⟩⟩ (Nat.le_of_ble_eq_true rfl) (fun v11 => ?_)
            refine a_iload dX12_green_60 4 rfl ?_
            refine a_cV_Sv (r := p0) (ci := 13) (as := [.int 1, .int v11, .int p4]) (st := []) dX12_green_62 (c_X12_tells l g h0 p0 1 v11 p4) rfl km_X12_tells (hm_X12_tells) rfl (by decide) rfl (fun _ ee => g_X12_tells ee) w_methodLink_RainCoverModel_238 w_instanceMethod_RainCoverModel_tells__ZII_V w_selects_RainCoverModel_RainCoverModel_tells__ZII_V_RainCoverModel_tells__ZII_V ⟨⟨by decide, by decide⟩, ⟨by decide, by decide⟩⟩ (Nat.le_of_ble_eq_true rfl) (fun q12 => ?_)
            refine a_aload_n dX12_green_65 rfl 0 rfl ?_
            refine a_geti kc13 7 dX12_green_66 (by decide) rfl w_fieldLink_RainCoverModel_228 (fun v13 => ?_)
            exact a_iret dX12_green_69 rfl rfl (by decide) (by decide)
theorem dX12_known_0 : decode cX12_known 0 = .ok (.iload_n 1, 1) := by decide +kernel
theorem dX12_known_1 : decode cX12_known 1 = .ok (.aload_n 0, 1) := by decide +kernel
theorem dX12_known_2 : decode cX12_known 2 = .ok (.getfield 228, 3) := by decide +kernel
theorem dX12_known_5 : decode cX12_known 5 = .ok (.if_icmp .lt 5, 3) := by decide +kernel
theorem dX12_known_8 : decode cX12_known 8 = .ok (.iconst 0, 1) := by decide +kernel
theorem dX12_known_9 : decode cX12_known 9 = .ok (.ireturn, 1) := by decide +kernel
theorem dX12_known_10 : decode cX12_known 10 = .ok (.aload_n 0, 1) := by decide +kernel
theorem dX12_known_11 : decode cX12_known 11 = .ok (.iconst 1, 1) := by decide +kernel
theorem dX12_known_12 : decode cX12_known 12 = .ok (.invokevirtual 200, 3) := by decide +kernel
theorem dX12_known_15 : decode cX12_known 15 = .ok (.iconst 0, 1) := by decide +kernel
theorem dX12_known_16 : decode cX12_known 16 = .ok (.istore_n 2, 1) := by decide +kernel
theorem dX12_known_17 : decode cX12_known 17 = .ok (.iload_n 2, 1) := by decide +kernel
theorem dX12_known_18 : decode cX12_known 18 = .ok (.iload_n 1, 1) := by decide +kernel
theorem dX12_known_19 : decode cX12_known 19 = .ok (.if_icmp .ge 63, 3) := by decide +kernel
theorem dX12_known_22 : decode cX12_known 22 = .ok (.aload_n 0, 1) := by decide +kernel
theorem dX12_known_23 : decode cX12_known 23 = .ok (.getfield 30, 3) := by decide +kernel
theorem dX12_known_26 : decode cX12_known 26 = .ok (.iload_n 2, 1) := by decide +kernel
theorem dX12_known_27 : decode cX12_known 27 = .ok (.baload, 1) := by decide +kernel
theorem dX12_known_28 : decode cX12_known 28 = .ok (.ifCond .eq 27, 3) := by decide +kernel
theorem dX12_known_31 : decode cX12_known 31 = .ok (.aload_n 0, 1) := by decide +kernel
theorem dX12_known_32 : decode cX12_known 32 = .ok (.getfield 43, 3) := by decide +kernel
theorem dX12_known_35 : decode cX12_known 35 = .ok (.sipush 768, 3) := by decide +kernel
theorem dX12_known_38 : decode cX12_known 38 = .ok (.aload_n 0, 1) := by decide +kernel
theorem dX12_known_39 : decode cX12_known 39 = .ok (.getfield 34, 3) := by decide +kernel
theorem dX12_known_42 : decode cX12_known 42 = .ok (.iload_n 2, 1) := by decide +kernel
theorem dX12_known_43 : decode cX12_known 43 = .ok (.iaload, 1) := by decide +kernel
theorem dX12_known_44 : decode cX12_known 44 = .ok (.iadd, 1) := by decide +kernel
theorem dX12_known_45 : decode cX12_known 45 = .ok (.aload_n 0, 1) := by decide +kernel
theorem dX12_known_46 : decode cX12_known 46 = .ok (.getfield 37, 3) := by decide +kernel
theorem dX12_known_49 : decode cX12_known 49 = .ok (.iload_n 2, 1) := by decide +kernel
theorem dX12_known_50 : decode cX12_known 50 = .ok (.iaload, 1) := by decide +kernel
theorem dX12_known_51 : decode cX12_known 51 = .ok (.iastore, 1) := by decide +kernel
theorem dX12_known_52 : decode cX12_known 52 = .ok (.goto 24, 3) := by decide +kernel
theorem dX12_known_55 : decode cX12_known 55 = .ok (.aload_n 0, 1) := by decide +kernel
theorem dX12_known_56 : decode cX12_known 56 = .ok (.getfield 40, 3) := by decide +kernel
theorem dX12_known_59 : decode cX12_known 59 = .ok (.sipush 1536, 3) := by decide +kernel
theorem dX12_known_62 : decode cX12_known 62 = .ok (.aload_n 0, 1) := by decide +kernel
theorem dX12_known_63 : decode cX12_known 63 = .ok (.getfield 34, 3) := by decide +kernel
theorem dX12_known_66 : decode cX12_known 66 = .ok (.iload_n 2, 1) := by decide +kernel
theorem dX12_known_67 : decode cX12_known 67 = .ok (.iaload, 1) := by decide +kernel
theorem dX12_known_68 : decode cX12_known 68 = .ok (.iadd, 1) := by decide +kernel
theorem dX12_known_69 : decode cX12_known 69 = .ok (.aload_n 0, 1) := by decide +kernel
theorem dX12_known_70 : decode cX12_known 70 = .ok (.getfield 37, 3) := by decide +kernel
theorem dX12_known_73 : decode cX12_known 73 = .ok (.iload_n 2, 1) := by decide +kernel
theorem dX12_known_74 : decode cX12_known 74 = .ok (.iaload, 1) := by decide +kernel
theorem dX12_known_75 : decode cX12_known 75 = .ok (.iastore, 1) := by decide +kernel
theorem dX12_known_76 : decode cX12_known 76 = .ok (.iinc 2 1, 3) := by decide +kernel
theorem dX12_known_79 : decode cX12_known 79 = .ok (.goto (-62), 3) := by decide +kernel
theorem dX12_known_82 : decode cX12_known 82 = .ok (.iconst 1, 1) := by decide +kernel
theorem dX12_known_83 : decode cX12_known 83 = .ok (.ireturn, 1) := by decide +kernel
abbrev M_X12_known : MI := (RX12, cX12_known, 3, (some .int), ({ frames := 1, cells := 0, slots := 0, locals := 22 } : Room), 0, 0, false)
def f_X12_known_b76 (N : Nat) (K17 : AH → Nat → Int32 → Int32 → Option (Int32 × AH)) (h : AH) (x0 : Nat) (x1 : Int32) (x2 : Int32) : Option (Int32 × AH) := K17 h x0 x1 (x2 + 1)
def f_X12_known_b17_body (N : Nat) (K17 : AH → Nat → Int32 → Int32 → Option (Int32 × AH)) (h : AH) (x0 : Nat) (x1 : Int32) (x2 : Int32) : Option (Int32 × AH) := (if x1 ≤ x2 then some (1, h) else (xgr h x0 13 8).bind fun v5 => (xba h v5 x2).bind fun v6 => (if v6 = 0 then (xgr h x0 13 11).bind fun v8 => (xgr h x0 13 9).bind fun v9 => (xia h v9 x2).bind fun v10 => (xgr h x0 13 10).bind fun v11 => (xia h v11 x2).bind fun v12 => (xis h v8 (1536 + v10) v12).bind fun h13 => f_X12_known_b76 N K17 h13 x0 x1 x2 else (xgr h x0 13 12).bind fun v14 => (xgr h x0 13 9).bind fun v15 => (xia h v15 x2).bind fun v16 => (xgr h x0 13 10).bind fun v17 => (xia h v17 x2).bind fun v18 => (xis h v14 (768 + v16) v18).bind fun h19 => f_X12_known_b76 N K17 h19 x0 x1 x2))
def f_X12_known_b17 (N : Nat) : Nat → AH → Nat → Int32 → Int32 → Option (Int32 × AH)
  | 0, _, _, _, _ => none
  | n + 1, h, x0, x1, x2 => f_X12_known_b17_body N  (f_X12_known_b17 N  n) h x0 x1 x2
def f_X12_known (h0 : AH) (N : Nat) (p0 : Nat) (p1 : Int32) : Option (Int32 × AH) := if kd h0 p0 = 13 + 1 then (xgi h0 p0 13 7).bind fun v1 => (if p1 < v1 then (f_X12_clears h0 N p0 1).bind fun q3 => f_X12_known_b17 N N q3 p0 p1 0 else some (0, h0)) else none
theorem g_X12_known {h0 : AH} {N : Nat} {p0 : Nat} {p1 : Int32} {x : (Int32 × AH)} (e : f_X12_known h0 N p0 p1 = some x) : kd h0 p0 = 13 + 1 := by
  unfold f_X12_known at e
  by_cases hk : kd h0 p0 = 13 + 1
  · exact hk
  · rw [if_neg hk] at e
    cases e
theorem km_X12_known : KM yX12_known M_X12_known 1 := ⟨in_tb 1478 (by decide +kernel) rfl, in_tb 9 (by decide +kernel) rfl, by decide +kernel, rfl, rfl⟩
theorem hm_X12_known : M_X12_known.2.2.2.2.2.1 = 0 ∧ M_X12_known.2.2.2.2.2.2.1 = 0 := ⟨rfl, rfl⟩
section
variable {l : Launch} {g : GG}
set_option maxRecDepth 100000 in
set_option maxHeartbeats 4000000 in
theorem t_X12_known_b76 (h0 : AH) (N : Nat) (K17 : AH → Nat → Int32 → Int32 → Option (Int32 × AH)) (hK17 : ∀ (z : AH) (z0 : Nat) (z1 : Int32) (z2 : Int32), AO l g M_X12_known false h0 17 [(0, .ref z0), (1, .int z1), (2, .int z2)] [] z 0 0 rSi (K17 z z0 z1 z2)) (h : AH) (x0 : Nat) (x1 : Int32) (x2 : Int32) : AO l g M_X12_known false h0 76 [(0, .ref x0), (1, .int x1), (2, .int x2)] [] h 0 0 rSi (f_X12_known_b76 N K17 h x0 x1 x2) := by
  unfold f_X12_known_b76
  refine a_iinc (q := 2) (v := (x2 + 1)) (lc2 := [(2, .int (x2 + 1)), (0, .ref x0), (1, .int x1)]) dX12_known_76 rfl rfl (by decide) rfl ?_
  refine a_goto 17 dX12_known_79 (by decide) ?_
  refine a_pick (lc2 := [(0, .ref x0), (1, .int x1), (2, .int (x2 + 1))]) [1, 2, 0] rfl ?_
  exact hK17 h x0 x1 (x2 + 1)
set_option maxRecDepth 100000 in
set_option maxHeartbeats 4000000 in
theorem t_X12_known_b17_body (h0 : AH) (N : Nat) (K17 : AH → Nat → Int32 → Int32 → Option (Int32 × AH)) (hK17 : ∀ (z : AH) (z0 : Nat) (z1 : Int32) (z2 : Int32), AO l g M_X12_known false h0 17 [(0, .ref z0), (1, .int z1), (2, .int z2)] [] z 0 0 rSi (K17 z z0 z1 z2)) (h : AH) (x0 : Nat) (x1 : Int32) (x2 : Int32) : AO l g M_X12_known false h0 17 [(0, .ref x0), (1, .int x1), (2, .int x2)] [] h 0 0 rSi (f_X12_known_b17_body N K17 h x0 x1 x2) := by
  unfold f_X12_known_b17_body
  refine a_iload_n dX12_known_17 rfl 2 rfl ?_
  refine a_iload_n dX12_known_18 rfl 1 rfl ?_
  refine a_icmp_ge 82 dX12_known_19 (by decide) (fun c4 => ?_) (fun c4 => ?_)
  · refine a_iconst (v := 1) dX12_known_82 (by decide) ?_
    exact a_iret dX12_known_83 rfl rfl (by decide) (by decide)
  · refine a_aload_n dX12_known_22 rfl 0 rfl ?_
    refine a_getr kc13 8 dX12_known_23 (by decide) rfl w_fieldLink_RainCoverModel_30 (fun v5 => ?_)
    refine a_iload_n dX12_known_26 rfl 2 rfl ?_
    refine a_bald dX12_known_27 (fun v6 => ?_)
    refine a_if_eq 55 dX12_known_28 (by decide) (fun c7 => ?_) (fun c7 => ?_)
    · refine a_aload_n dX12_known_55 rfl 0 rfl ?_
      refine a_getr kc13 11 dX12_known_56 (by decide) rfl w_fieldLink_RainCoverModel_40 (fun v8 => ?_)
      refine a_sipush (v := 1536) dX12_known_59 (by decide) ?_
      refine a_aload_n dX12_known_62 rfl 0 rfl ?_
      refine a_getr kc13 9 dX12_known_63 (by decide) rfl w_fieldLink_RainCoverModel_34 (fun v9 => ?_)
      refine a_iload_n dX12_known_66 rfl 2 rfl ?_
      refine a_iald dX12_known_67 (fun v10 => ?_)
      refine a_iadd dX12_known_68 ?_
      refine a_aload_n dX12_known_69 rfl 0 rfl ?_
      refine a_getr kc13 10 dX12_known_70 (by decide) rfl w_fieldLink_RainCoverModel_37 (fun v11 => ?_)
      refine a_iload_n dX12_known_73 rfl 2 rfl ?_
      refine a_iald dX12_known_74 (fun v12 => ?_)
      refine a_iast dX12_known_75 (fun h13 => ?_)
      exact t_X12_known_b76 h0 N K17 hK17 h13 x0 x1 x2
    · refine a_aload_n dX12_known_31 rfl 0 rfl ?_
      refine a_getr kc13 12 dX12_known_32 (by decide) rfl w_fieldLink_RainCoverModel_43 (fun v14 => ?_)
      refine a_sipush (v := 768) dX12_known_35 (by decide) ?_
      refine a_aload_n dX12_known_38 rfl 0 rfl ?_
      refine a_getr kc13 9 dX12_known_39 (by decide) rfl w_fieldLink_RainCoverModel_34 (fun v15 => ?_)
      refine a_iload_n dX12_known_42 rfl 2 rfl ?_
      refine a_iald dX12_known_43 (fun v16 => ?_)
      refine a_iadd dX12_known_44 ?_
      refine a_aload_n dX12_known_45 rfl 0 rfl ?_
      refine a_getr kc13 10 dX12_known_46 (by decide) rfl w_fieldLink_RainCoverModel_37 (fun v17 => ?_)
      refine a_iload_n dX12_known_49 rfl 2 rfl ?_
      refine a_iald dX12_known_50 (fun v18 => ?_)
      refine a_iast dX12_known_51 (fun h19 => ?_)
      refine a_goto 76 dX12_known_52 (by decide) ?_
      exact t_X12_known_b76 h0 N K17 hK17 h19 x0 x1 x2
set_option maxRecDepth 100000 in
set_option maxHeartbeats 4000000 in
theorem t_X12_known_b17 (h0 : AH) (N : Nat) : ∀ (n : Nat) (h : AH) (x0 : Nat) (x1 : Int32) (x2 : Int32) , AO l g M_X12_known false h0 17 [(0, .ref x0), (1, .int x1), (2, .int x2)] [] h 0 0 rSi (f_X12_known_b17 N  n h x0 x1 x2) := by
  intro n
  induction n with
  | zero => intro h x0 x1 x2; exact a_eq rfl a_none
  | succ n ih => intro h x0 x1 x2; exact a_eq rfl (t_X12_known_b17_body h0 N  (f_X12_known_b17 N  n) ih h x0 x1 x2)
end
set_option maxRecDepth 100000 in
set_option maxHeartbeats 4000000 in
theorem c_X12_known (l : Launch) (g : GG) (h0 : AH) (N : Nat) (p0 : Nat) (p1 : Int32) : CN l g yX12_known M_X12_known false [.ref p0, .int p1] h0 rSi (f_X12_known h0 N p0 p1) := by
  refine CN.of (by decide) rfl (fun hh => by first | rfl | cases hh) (Nat.le_of_ble_eq_true rfl) ?_
  unfold f_X12_known
  refine a_gd (fun hkd => ?_)
  refine a_iload_n dX12_known_0 rfl 1 rfl ?_
  refine a_aload_n dX12_known_1 rfl 0 rfl ?_
  refine a_geti kc13 7 dX12_known_2 (by decide) rfl w_fieldLink_RainCoverModel_228 (fun v1 => ?_)
  refine a_icmp_lt 10 dX12_known_5 (by decide) (fun c2 => ?_) (fun c2 => ?_)
  · refine a_aload_n dX12_known_10 rfl 0 rfl ?_
    refine a_iconst (v := 1) dX12_known_11 (by decide) ?_
    refine a_cV_Sv (r := p0) (ci := 13) (as := [.int 1]) (st := []) dX12_known_12 (c_X12_clears l g h0 N p0 1) rfl km_X12_clears (hm_X12_clears) rfl (by decide) rfl (fun _ ee => g_X12_clears ee) w_methodLink_RainCoverModel_200 w_instanceMethod_RainCoverModel_clears__I_V w_selects_RainCoverModel_RainCoverModel_clears__I_V_RainCoverModel_clears__I_V ⟨⟨by decide, by decide⟩, ⟨by decide, by decide⟩⟩ (Nat.le_of_ble_eq_true rfl) (fun q3 => ?_)
    refine a_iconst (v := 0) dX12_known_15 (by decide) ?_
    refine a_istore_n (lc2 := [(2, .int 0), (0, .ref p0), (1, .int p1)]) dX12_known_16 rfl (by decide) rfl ?_
    refine a_pick (lc2 := [(0, .ref p0), (1, .int p1), (2, .int 0)]) [1, 2, 0] rfl ?_
    exact t_X12_known_b17 h0 N N q3 p0 p1 0
  · refine a_iconst (v := 0) dX12_known_8 (by decide) ?_
    exact a_iret dX12_known_9 rfl rfl (by decide) (by decide)
theorem dX12_seen_0 : decode cX12_seen 0 = .ok (.iload_n 1, 1) := by decide +kernel
theorem dX12_seen_1 : decode cX12_seen 1 = .ok (.iconst 0, 1) := by decide +kernel
theorem dX12_seen_2 : decode cX12_seen 2 = .ok (.iconst 3, 1) := by decide +kernel
theorem dX12_seen_3 : decode cX12_seen 3 = .ok (.invokestatic 204, 3) := by decide +kernel
theorem dX12_seen_6 : decode cX12_seen 6 = .ok (.ifCond .eq 22, 3) := by decide +kernel
theorem dX12_seen_9 : decode cX12_seen 9 = .ok (.iload_n 2, 1) := by decide +kernel
theorem dX12_seen_10 : decode cX12_seen 10 = .ok (.invokestatic 221, 3) := by decide +kernel
theorem dX12_seen_13 : decode cX12_seen 13 = .ok (.ifCond .eq 15, 3) := by decide +kernel
theorem dX12_seen_16 : decode cX12_seen 16 = .ok (.iload_n 3, 1) := by decide +kernel
theorem dX12_seen_17 : decode cX12_seen 17 = .ok (.invokestatic 231, 3) := by decide +kernel
theorem dX12_seen_20 : decode cX12_seen 20 = .ok (.ifCond .eq 8, 3) := by decide +kernel
theorem dX12_seen_23 : decode cX12_seen 23 = .ok (.iload 4, 2) := by decide +kernel
theorem dX12_seen_25 : decode cX12_seen 25 = .ok (.ifCond .ge 6, 3) := by decide +kernel
theorem dX12_seen_28 : decode cX12_seen 28 = .ok (.bipush (-5), 2) := by decide +kernel
theorem dX12_seen_30 : decode cX12_seen 30 = .ok (.ireturn, 1) := by decide +kernel
theorem dX12_seen_31 : decode cX12_seen 31 = .ok (.aload_n 0, 1) := by decide +kernel
theorem dX12_seen_32 : decode cX12_seen 32 = .ok (.getfield 43, 3) := by decide +kernel
theorem dX12_seen_35 : decode cX12_seen 35 = .ok (.sipush 768, 3) := by decide +kernel
theorem dX12_seen_38 : decode cX12_seen 38 = .ok (.aload_n 0, 1) := by decide +kernel
theorem dX12_seen_39 : decode cX12_seen 39 = .ok (.iload 4, 2) := by decide +kernel
theorem dX12_seen_41 : decode cX12_seen 41 = .ok (.invokevirtual 242, 3) := by decide +kernel
theorem dX12_seen_44 : decode cX12_seen 44 = .ok (.imul, 1) := by decide +kernel
theorem dX12_seen_45 : decode cX12_seen 45 = .ok (.iload_n 1, 1) := by decide +kernel
theorem dX12_seen_46 : decode cX12_seen 46 = .ok (.iload_n 2, 1) := by decide +kernel
theorem dX12_seen_47 : decode cX12_seen 47 = .ok (.iload_n 3, 1) := by decide +kernel
theorem dX12_seen_48 : decode cX12_seen 48 = .ok (.invokestatic 234, 3) := by decide +kernel
theorem dX12_seen_51 : decode cX12_seen 51 = .ok (.iadd, 1) := by decide +kernel
theorem dX12_seen_52 : decode cX12_seen 52 = .ok (.iaload, 1) := by decide +kernel
theorem dX12_seen_53 : decode cX12_seen 53 = .ok (.ireturn, 1) := by decide +kernel
abbrev M_X12_seen : MI := (RX12, cX12_seen, 5, (some .int), ({ frames := 2, cells := 0, slots := 0, locals := 44 } : Room), 0, 0, false)
def f_X12_seen (h0 : AH) (N : Nat) (p0 : Nat) (p1 : Int32) (p2 : Int32) (p3 : Int32) (p4 : Int32) : Option (Int32 × AH) := if kd h0 p0 = 13 + 1 then (f_X12_in h0 p1 0 3).bind fun v1 => (if v1 = 0 then some ((-5), h0) else (f_X12_isSeason h0 p2).bind fun v3 => (if v3 = 0 then some ((-5), h0) else (f_X12_isWeek h0 p3).bind fun v5 => (if v5 = 0 then some ((-5), h0) else (if 0 ≤ p4 then (xgr h0 p0 13 12).bind fun v8 => (f_X12_known h0 N p0 p4).bind fun q9 => (f_X12_spotOf q9.2 p1 p2 p3).bind fun v10 => (xia q9.2 v8 ((768 * q9.1) + v10)).bind fun v11 => some (v11, q9.2) else some ((-5), h0))))) else none
theorem g_X12_seen {h0 : AH} {N : Nat} {p0 : Nat} {p1 : Int32} {p2 : Int32} {p3 : Int32} {p4 : Int32} {x : (Int32 × AH)} (e : f_X12_seen h0 N p0 p1 p2 p3 p4 = some x) : kd h0 p0 = 13 + 1 := by
  unfold f_X12_seen at e
  by_cases hk : kd h0 p0 = 13 + 1
  · exact hk
  · rw [if_neg hk] at e
    cases e
theorem km_X12_seen : KM yX12_seen M_X12_seen 4 := ⟨in_tb 1474 (by decide +kernel) rfl, in_tb 9 (by decide +kernel) rfl, by decide +kernel, rfl, rfl⟩
theorem hm_X12_seen : M_X12_seen.2.2.2.2.2.1 = 0 ∧ M_X12_seen.2.2.2.2.2.2.1 = 0 := ⟨rfl, rfl⟩
section
variable {l : Launch} {g : GG}
end
set_option maxRecDepth 100000 in
set_option maxHeartbeats 4000000 in
theorem c_X12_seen (l : Launch) (g : GG) (h0 : AH) (N : Nat) (p0 : Nat) (p1 : Int32) (p2 : Int32) (p3 : Int32) (p4 : Int32) : CN l g yX12_seen M_X12_seen false [.ref p0, .int p1, .int p2, .int p3, .int p4] h0 rSi (f_X12_seen h0 N p0 p1 p2 p3 p4) := by
  refine CN.of (by decide) rfl (fun hh => by first | rfl | cases hh) (Nat.le_of_ble_eq_true rfl) ?_
  unfold f_X12_seen
  refine a_gd (fun hkd => ?_)
  refine a_iload_n dX12_seen_0 rfl 1 rfl ?_
  refine a_iconst (v := 0) dX12_seen_1 (by decide) ?_
  refine a_iconst (v := 3) dX12_seen_2 (by decide) ?_
  refine a_cS_Pi (as := [.int p1, .int 0, .int 3]) (st := []) dX12_seen_3 (c_X12_in l g h0 p1 0 3) rfl km_X12_in (hm_X12_in) w_methodLink_RainCoverModel_204 w_static_RainCoverModel_in__III_Z ⟨⟨by decide, by decide⟩, ⟨by decide, by decide⟩⟩ (Nat.le_of_ble_eq_true rfl) (fun v1 => ?_)
  refine a_if_eq 28 dX12_seen_6 (by decide) (fun c2 => ?_) (fun c2 => ?_)
  · refine a_bipush (v := (-5)) dX12_seen_28 (by decide) ?_
    exact a_iret dX12_seen_30 rfl rfl (by decide) (by decide)
  · refine a_iload_n dX12_seen_9 rfl 2 rfl ?_
    refine a_cS_Pi (as := [.int p2]) (st := []) dX12_seen_10 (c_X12_isSeason l g h0 p2) rfl km_X12_isSeason (hm_X12_isSeason) w_methodLink_RainCoverModel_221 w_static_RainCoverModel_isSeason__I_Z ⟨⟨by decide, by decide⟩, ⟨by decide, by decide⟩⟩ (Nat.le_of_ble_eq_true rfl) (fun v3 => ?_)
    refine a_if_eq 28 dX12_seen_13 (by decide) (fun c4 => ?_) (fun c4 => ?_)
    · refine a_bipush (v := (-5)) dX12_seen_28 (by decide) ?_
      exact a_iret dX12_seen_30 rfl rfl (by decide) (by decide)
    · refine a_iload_n dX12_seen_16 rfl 3 rfl ?_
      refine a_cS_Pi (as := [.int p3]) (st := []) dX12_seen_17 (c_X12_isWeek l g h0 p3) rfl km_X12_isWeek (hm_X12_isWeek) w_methodLink_RainCoverModel_231 w_static_RainCoverModel_isWeek__I_Z ⟨⟨by decide, by decide⟩, ⟨by decide, by decide⟩⟩ (Nat.le_of_ble_eq_true rfl) (fun v5 => ?_)
      refine a_if_eq 28 dX12_seen_20 (by decide) (fun c6 => ?_) (fun c6 => ?_)
      · refine a_bipush (v := (-5)) dX12_seen_28 (by decide) ?_
        exact a_iret dX12_seen_30 rfl rfl (by decide) (by decide)
      · refine a_iload dX12_seen_23 4 rfl ?_
        refine a_if_ge 31 dX12_seen_25 (by decide) (fun c7 => ?_) (fun c7 => ?_)
        · refine a_aload_n dX12_seen_31 rfl 0 rfl ?_
          refine a_getr kc13 12 dX12_seen_32 (by decide) rfl w_fieldLink_RainCoverModel_43 (fun v8 => ?_)
          refine a_sipush (v := 768) dX12_seen_35 (by decide) ?_
          refine a_aload_n dX12_seen_38 rfl 0 rfl ?_
          refine a_iload dX12_seen_39 4 rfl ?_
          refine a_cV_Si (r := p0) (ci := 13) (as := [.int p4]) (st := [.int 768, .ref v8]) dX12_seen_41 (c_X12_known l g h0 N p0 p4) rfl km_X12_known (hm_X12_known) rfl (by decide) rfl (fun _ ee => g_X12_known ee) w_methodLink_RainCoverModel_242 w_instanceMethod_RainCoverModel_known__I_I w_selects_RainCoverModel_RainCoverModel_known__I_I_RainCoverModel_known__I_I ⟨⟨by decide, by decide⟩, ⟨by decide, by decide⟩⟩ (Nat.le_of_ble_eq_true rfl) (fun q9 => ?_)
          refine a_imul dX12_seen_44 ?_
          refine a_iload_n dX12_seen_45 rfl 1 rfl ?_
          refine a_iload_n dX12_seen_46 rfl 2 rfl ?_
          refine a_iload_n dX12_seen_47 rfl 3 rfl ?_
          refine a_cS_Pi (as := [.int p1, .int p2, .int p3]) (st := [.int (768 * q9.1), .ref v8]) dX12_seen_48 (c_X12_spotOf l g q9.2 p1 p2 p3) rfl km_X12_spotOf (hm_X12_spotOf) w_methodLink_RainCoverModel_234 w_static_RainCoverModel_spotOf__III_I ⟨⟨by decide, by decide⟩, ⟨by decide, by decide⟩⟩ (Nat.le_of_ble_eq_true rfl) (fun v10 => ?_)
          refine a_iadd dX12_seen_51 ?_
          refine a_iald dX12_seen_52 (fun v11 => ?_)
          exact a_iret dX12_seen_53 rfl rfl (by decide) (by decide)
        · refine a_bipush (v := (-5)) dX12_seen_28 (by decide) ?_
          exact a_iret dX12_seen_30 rfl rfl (by decide) (by decide)
theorem dX12_isSheet_0 : decode cX12_isSheet 0 = .ok (.iload_n 0, 1) := by decide +kernel
theorem dX12_isSheet_1 : decode cX12_isSheet 1 = .ok (.iconst 0, 1) := by decide +kernel
theorem dX12_isSheet_2 : decode cX12_isSheet 2 = .ok (.iconst 2, 1) := by decide +kernel
theorem dX12_isSheet_3 : decode cX12_isSheet 3 = .ok (.invokestatic 204, 3) := by decide +kernel
theorem dX12_isSheet_6 : decode cX12_isSheet 6 = .ok (.ireturn, 1) := by decide +kernel
abbrev M_X12_isSheet : MI := (RX12, cX12_isSheet, 1, (some .boolean), ({ frames := 1, cells := 0, slots := 0, locals := 22 } : Room), 0, 0, false)
def f_X12_isSheet (h : AH) (p0 : Int32) : Option Int32 := (f_X12_in h p0 0 2).bind fun v1 => (if v1 = 0 ∨ v1 = 1 then some v1 else none)
theorem km_X12_isSheet : KM yX12_isSheet M_X12_isSheet 1 := ⟨in_tb 1485 (by decide +kernel) rfl, in_tb 9 (by decide +kernel) rfl, by decide +kernel, rfl, rfl⟩
theorem hm_X12_isSheet : M_X12_isSheet.2.2.2.2.2.1 = 0 ∧ M_X12_isSheet.2.2.2.2.2.2.1 = 0 := ⟨rfl, rfl⟩
section
variable {l : Launch} {g : GG}
end
set_option maxRecDepth 100000 in
set_option maxHeartbeats 4000000 in
theorem c_X12_isSheet (l : Launch) (g : GG) (h : AH) (p0 : Int32) : CN l g yX12_isSheet M_X12_isSheet false [.int p0] h ((rPi h)) (f_X12_isSheet h p0) := by
  refine CN.of (by decide) rfl (fun hh => by first | rfl | cases hh) (Nat.le_of_ble_eq_true rfl) ?_
  unfold f_X12_isSheet
  refine a_iload_n dX12_isSheet_0 rfl 0 rfl ?_
  refine a_iconst (v := 0) dX12_isSheet_1 (by decide) ?_
  refine a_iconst (v := 2) dX12_isSheet_2 (by decide) ?_
  refine a_cS_Pi (as := [.int p0, .int 0, .int 2]) (st := []) dX12_isSheet_3 (c_X12_in l g h p0 0 2) rfl km_X12_in (hm_X12_in) w_methodLink_RainCoverModel_204 w_static_RainCoverModel_in__III_Z ⟨⟨by decide, by decide⟩, ⟨by decide, by decide⟩⟩ (Nat.le_of_ble_eq_true rfl) (fun v1 => ?_)
  exact a_gd (fun c2 => a_zret dX12_isSheet_6 rfl c2 rfl (by decide) (by decide))
theorem dX12_lay_0 : decode cX12_lay 0 = .ok (.aload_n 0, 1) := by decide +kernel
theorem dX12_lay_1 : decode cX12_lay 1 = .ok (.iload_n 1, 1) := by decide +kernel
theorem dX12_lay_2 : decode cX12_lay 2 = .ok (.invokevirtual 225, 3) := by decide +kernel
theorem dX12_lay_5 : decode cX12_lay 5 = .ok (.ifCond .eq 10, 3) := by decide +kernel
theorem dX12_lay_8 : decode cX12_lay 8 = .ok (.iload_n 2, 1) := by decide +kernel
theorem dX12_lay_9 : decode cX12_lay 9 = .ok (.invokestatic 221, 3) := by decide +kernel
theorem dX12_lay_12 : decode cX12_lay 12 = .ok (.ifCond .ne 5, 3) := by decide +kernel
theorem dX12_lay_15 : decode cX12_lay 15 = .ok (.iconst (-1), 1) := by decide +kernel
theorem dX12_lay_16 : decode cX12_lay 16 = .ok (.ireturn, 1) := by decide +kernel
theorem dX12_lay_17 : decode cX12_lay 17 = .ok (.iload_n 3, 1) := by decide +kernel
theorem dX12_lay_18 : decode cX12_lay 18 = .ok (.invokestatic 246, 3) := by decide +kernel
theorem dX12_lay_21 : decode cX12_lay 21 = .ok (.ifCond .eq 13, 3) := by decide +kernel
theorem dX12_lay_24 : decode cX12_lay 24 = .ok (.iload 4, 2) := by decide +kernel
theorem dX12_lay_26 : decode cX12_lay 26 = .ok (.iconst 0, 1) := by decide +kernel
theorem dX12_lay_27 : decode cX12_lay 27 = .ok (.iconst 2, 1) := by decide +kernel
theorem dX12_lay_28 : decode cX12_lay 28 = .ok (.invokestatic 204, 3) := by decide +kernel
theorem dX12_lay_31 : decode cX12_lay 31 = .ok (.ifCond .ne 6, 3) := by decide +kernel
theorem dX12_lay_34 : decode cX12_lay 34 = .ok (.bipush (-2), 2) := by decide +kernel
theorem dX12_lay_36 : decode cX12_lay 36 = .ok (.ireturn, 1) := by decide +kernel
theorem dX12_lay_37 : decode cX12_lay 37 = .ok (.aload_n 0, 1) := by decide +kernel
theorem dX12_lay_38 : decode cX12_lay 38 = .ok (.getfield 176, 3) := by decide +kernel
theorem dX12_lay_41 : decode cX12_lay 41 = .ok (.iload_n 3, 1) := by decide +kernel
theorem dX12_lay_42 : decode cX12_lay 42 = .ok (.iaload, 1) := by decide +kernel
theorem dX12_lay_43 : decode cX12_lay 43 = .ok (.iconst (-1), 1) := by decide +kernel
theorem dX12_lay_44 : decode cX12_lay 44 = .ok (.if_icmp .eq 17, 3) := by decide +kernel
theorem dX12_lay_47 : decode cX12_lay 47 = .ok (.aload_n 0, 1) := by decide +kernel
theorem dX12_lay_48 : decode cX12_lay 48 = .ok (.getfield 176, 3) := by decide +kernel
theorem dX12_lay_51 : decode cX12_lay 51 = .ok (.iload_n 3, 1) := by decide +kernel
theorem dX12_lay_52 : decode cX12_lay 52 = .ok (.iaload, 1) := by decide +kernel
theorem dX12_lay_53 : decode cX12_lay 53 = .ok (.iload 4, 2) := by decide +kernel
theorem dX12_lay_55 : decode cX12_lay 55 = .ok (.if_icmp .eq 6, 3) := by decide +kernel
theorem dX12_lay_58 : decode cX12_lay 58 = .ok (.bipush (-13), 2) := by decide +kernel
theorem dX12_lay_60 : decode cX12_lay 60 = .ok (.ireturn, 1) := by decide +kernel
theorem dX12_lay_61 : decode cX12_lay 61 = .ok (.aload_n 0, 1) := by decide +kernel
theorem dX12_lay_62 : decode cX12_lay 62 = .ok (.getfield 176, 3) := by decide +kernel
theorem dX12_lay_65 : decode cX12_lay 65 = .ok (.iload_n 3, 1) := by decide +kernel
theorem dX12_lay_66 : decode cX12_lay 66 = .ok (.iaload, 1) := by decide +kernel
theorem dX12_lay_67 : decode cX12_lay 67 = .ok (.iconst (-1), 1) := by decide +kernel
theorem dX12_lay_68 : decode cX12_lay 68 = .ok (.if_icmp .ne 6, 3) := by decide +kernel
theorem dX12_lay_71 : decode cX12_lay 71 = .ok (.bipush (-11), 2) := by decide +kernel
theorem dX12_lay_73 : decode cX12_lay 73 = .ok (.ireturn, 1) := by decide +kernel
theorem dX12_lay_74 : decode cX12_lay 74 = .ok (.iload 5, 2) := by decide +kernel
theorem dX12_lay_76 : decode cX12_lay 76 = .ok (.ifCond .lt 17, 3) := by decide +kernel
theorem dX12_lay_79 : decode cX12_lay 79 = .ok (.iload 5, 2) := by decide +kernel
theorem dX12_lay_81 : decode cX12_lay 81 = .ok (.aload_n 0, 1) := by decide +kernel
theorem dX12_lay_82 : decode cX12_lay 82 = .ok (.getfield 179, 3) := by decide +kernel
theorem dX12_lay_85 : decode cX12_lay 85 = .ok (.iload_n 3, 1) := by decide +kernel
theorem dX12_lay_86 : decode cX12_lay 86 = .ok (.iaload, 1) := by decide +kernel
theorem dX12_lay_87 : decode cX12_lay 87 = .ok (.bipush 12, 2) := by decide +kernel
theorem dX12_lay_89 : decode cX12_lay 89 = .ok (.isub, 1) := by decide +kernel
theorem dX12_lay_90 : decode cX12_lay 90 = .ok (.if_icmp .le 6, 3) := by decide +kernel
theorem dX12_lay_93 : decode cX12_lay 93 = .ok (.bipush (-12), 2) := by decide +kernel
theorem dX12_lay_95 : decode cX12_lay 95 = .ok (.ireturn, 1) := by decide +kernel
theorem dX12_lay_96 : decode cX12_lay 96 = .ok (.aload_n 0, 1) := by decide +kernel
theorem dX12_lay_97 : decode cX12_lay 97 = .ok (.getfield 228, 3) := by decide +kernel
theorem dX12_lay_100 : decode cX12_lay 100 = .ok (.bipush 12, 2) := by decide +kernel
theorem dX12_lay_102 : decode cX12_lay 102 = .ok (.iadd, 1) := by decide +kernel
theorem dX12_lay_103 : decode cX12_lay 103 = .ok (.sipush 700, 3) := by decide +kernel
theorem dX12_lay_106 : decode cX12_lay 106 = .ok (.if_icmp .le 6, 3) := by decide +kernel
theorem dX12_lay_109 : decode cX12_lay 109 = .ok (.bipush (-4), 2) := by decide +kernel
theorem dX12_lay_111 : decode cX12_lay 111 = .ok (.ireturn, 1) := by decide +kernel
theorem dX12_lay_112 : decode cX12_lay 112 = .ok (.iconst 0, 1) := by decide +kernel
theorem dX12_lay_113 : decode cX12_lay 113 = .ok (.istore 6, 2) := by decide +kernel
theorem dX12_lay_115 : decode cX12_lay 115 = .ok (.iload 6, 2) := by decide +kernel
theorem dX12_lay_117 : decode cX12_lay 117 = .ok (.bipush 12, 2) := by decide +kernel
theorem dX12_lay_119 : decode cX12_lay 119 = .ok (.if_icmp .ge 56, 3) := by decide +kernel
theorem dX12_lay_122 : decode cX12_lay 122 = .ok (.aload_n 0, 1) := by decide +kernel
theorem dX12_lay_123 : decode cX12_lay 123 = .ok (.getfield 182, 3) := by decide +kernel
theorem dX12_lay_126 : decode cX12_lay 126 = .ok (.bipush 40, 2) := by decide +kernel
theorem dX12_lay_128 : decode cX12_lay 128 = .ok (.iload_n 3, 1) := by decide +kernel
theorem dX12_lay_129 : decode cX12_lay 129 = .ok (.imul, 1) := by decide +kernel
theorem dX12_lay_130 : decode cX12_lay 130 = .ok (.iload 5, 2) := by decide +kernel
theorem dX12_lay_132 : decode cX12_lay 132 = .ok (.iadd, 1) := by decide +kernel
theorem dX12_lay_133 : decode cX12_lay 133 = .ok (.iload 6, 2) := by decide +kernel
theorem dX12_lay_135 : decode cX12_lay 135 = .ok (.iadd, 1) := by decide +kernel
theorem dX12_lay_136 : decode cX12_lay 136 = .ok (.iaload, 1) := by decide +kernel
theorem dX12_lay_137 : decode cX12_lay 137 = .ok (.istore 7, 2) := by decide +kernel
theorem dX12_lay_139 : decode cX12_lay 139 = .ok (.aload_n 0, 1) := by decide +kernel
theorem dX12_lay_140 : decode cX12_lay 140 = .ok (.iconst 0, 1) := by decide +kernel
theorem dX12_lay_141 : decode cX12_lay 141 = .ok (.iload_n 1, 1) := by decide +kernel
theorem dX12_lay_142 : decode cX12_lay 142 = .ok (.iload_n 2, 1) := by decide +kernel
theorem dX12_lay_143 : decode cX12_lay 143 = .ok (.iload 6, 2) := by decide +kernel
theorem dX12_lay_145 : decode cX12_lay 145 = .ok (.invokestatic 234, 3) := by decide +kernel
theorem dX12_lay_148 : decode cX12_lay 148 = .ok (.iload 7, 2) := by decide +kernel
theorem dX12_lay_150 : decode cX12_lay 150 = .ok (.iconst 0, 1) := by decide +kernel
theorem dX12_lay_151 : decode cX12_lay 151 = .ok (.sipush 9999, 3) := by decide +kernel
theorem dX12_lay_154 : decode cX12_lay 154 = .ok (.invokestatic 204, 3) := by decide +kernel
theorem dX12_lay_157 : decode cX12_lay 157 = .ok (.ifCond .eq 8, 3) := by decide +kernel
theorem dX12_lay_160 : decode cX12_lay 160 = .ok (.iload 7, 2) := by decide +kernel
theorem dX12_lay_162 : decode cX12_lay 162 = .ok (.goto 4, 3) := by decide +kernel
theorem dX12_lay_165 : decode cX12_lay 165 = .ok (.iconst (-1), 1) := by decide +kernel
theorem dX12_lay_166 : decode cX12_lay 166 = .ok (.invokevirtual 238, 3) := by decide +kernel
theorem dX12_lay_169 : decode cX12_lay 169 = .ok (.iinc 6 1, 3) := by decide +kernel
theorem dX12_lay_172 : decode cX12_lay 172 = .ok (.goto (-57), 3) := by decide +kernel
theorem dX12_lay_175 : decode cX12_lay 175 = .ok (.aload_n 0, 1) := by decide +kernel
theorem dX12_lay_176 : decode cX12_lay 176 = .ok (.getfield 228, 3) := by decide +kernel
theorem dX12_lay_179 : decode cX12_lay 179 = .ok (.ireturn, 1) := by decide +kernel
abbrev M_X12_lay : MI := (RX12, cX12_lay, 8, (some .int), ({ frames := 2, cells := 0, slots := 0, locals := 43 } : Room), 0, 0, false)
def f_X12_lay_b166 (N : Nat) (K115 : AH → Nat → Int32 → Int32 → Int32 → Int32 → Int32 → Option (Int32 × AH)) (h : AH) (x0 : Nat) (x1 : Int32) (x2 : Int32) (x3 : Int32) (x5 : Int32) (x6 : Int32) (s6 : Int32) (s7 : Int32) (s8 : Int32) (s9 : Nat) : Option (Int32 × AH) := (f_X12_tells h s9 s8 s7 s6).bind fun q31 => K115 q31 x0 x1 x2 x3 x5 (x6 + 1)
def f_X12_lay_b115_body (N : Nat) (K115 : AH → Nat → Int32 → Int32 → Int32 → Int32 → Int32 → Option (Int32 × AH)) (h : AH) (x0 : Nat) (x1 : Int32) (x2 : Int32) (x3 : Int32) (x5 : Int32) (x6 : Int32) : Option (Int32 × AH) := (if 12 ≤ x6 then (xgi h x0 13 7).bind fun v25 => some (v25, h) else (xgr h x0 13 68).bind fun v26 => (xia h v26 (((40 * x3) + x5) + x6)).bind fun v27 => (f_X12_spotOf h x1 x2 x6).bind fun v28 => (f_X12_in h v27 0 9999).bind fun v29 => (if v29 = 0 then f_X12_lay_b166 N K115 h x0 x1 x2 x3 x5 x6 (-1) v28 0 x0 else f_X12_lay_b166 N K115 h x0 x1 x2 x3 x5 x6 v27 v28 0 x0))
def f_X12_lay_b115 (N : Nat) : Nat → AH → Nat → Int32 → Int32 → Int32 → Int32 → Int32 → Option (Int32 × AH)
  | 0, _, _, _, _, _, _, _ => none
  | n + 1, h, x0, x1, x2, x3, x5, x6 => f_X12_lay_b115_body N  (f_X12_lay_b115 N  n) h x0 x1 x2 x3 x5 x6
def f_X12_lay_b61 (N : Nat) (h : AH) (x0 : Nat) (x1 : Int32) (x2 : Int32) (x3 : Int32) (x5 : Int32) : Option (Int32 × AH) := (xgr h x0 13 66).bind fun v15 => (xia h v15 x3).bind fun v16 => (if v16 = (-1) then some ((-11), h) else (if x5 < 0 then some ((-12), h) else (xgr h x0 13 67).bind fun v19 => (xia h v19 x3).bind fun v20 => (if x5 ≤ (v20 - 12) then (xgi h x0 13 7).bind fun v22 => (if (v22 + 12) ≤ 700 then f_X12_lay_b115 N N h x0 x1 x2 x3 x5 0 else some ((-4), h)) else some ((-12), h))))
def f_X12_lay (h0 : AH) (N : Nat) (p0 : Nat) (p1 : Int32) (p2 : Int32) (p3 : Int32) (p4 : Int32) (p5 : Int32) : Option (Int32 × AH) := if kd h0 p0 = 13 + 1 then (f_X12_isGauge h0 p0 p1).bind fun v1 => (if v1 = 0 then some ((-1), h0) else (f_X12_isSeason h0 p2).bind fun v3 => (if v3 = 0 then some ((-1), h0) else (f_X12_isSheet h0 p3).bind fun v5 => (if v5 = 0 then some ((-2), h0) else (f_X12_in h0 p4 0 2).bind fun v7 => (if v7 = 0 then some ((-2), h0) else (xgr h0 p0 13 66).bind fun v9 => (xia h0 v9 p3).bind fun v10 => (if v10 = (-1) then f_X12_lay_b61 N h0 p0 p1 p2 p3 p5 else (xgr h0 p0 13 66).bind fun v12 => (xia h0 v12 p3).bind fun v13 => (if v13 = p4 then f_X12_lay_b61 N h0 p0 p1 p2 p3 p5 else some ((-13), h0))))))) else none
theorem g_X12_lay {h0 : AH} {N : Nat} {p0 : Nat} {p1 : Int32} {p2 : Int32} {p3 : Int32} {p4 : Int32} {p5 : Int32} {x : (Int32 × AH)} (e : f_X12_lay h0 N p0 p1 p2 p3 p4 p5 = some x) : kd h0 p0 = 13 + 1 := by
  unfold f_X12_lay at e
  by_cases hk : kd h0 p0 = 13 + 1
  · exact hk
  · rw [if_neg hk] at e
    cases e
theorem km_X12_lay : KM yX12_lay M_X12_lay 5 := ⟨in_tb 1482 (by decide +kernel) rfl, in_tb 9 (by decide +kernel) rfl, by decide +kernel, rfl, rfl⟩
theorem hm_X12_lay : M_X12_lay.2.2.2.2.2.1 = 0 ∧ M_X12_lay.2.2.2.2.2.2.1 = 0 := ⟨rfl, rfl⟩
section
variable {l : Launch} {g : GG}
set_option maxRecDepth 100000 in
set_option maxHeartbeats 4000000 in
theorem t_X12_lay_b166 (h0 : AH) (N : Nat) (K115 : AH → Nat → Int32 → Int32 → Int32 → Int32 → Int32 → Option (Int32 × AH)) (hK115 : ∀ (z : AH) (z0 : Nat) (z1 : Int32) (z2 : Int32) (z3 : Int32) (z4 : Int32) (z5 : Int32), AO l g M_X12_lay false h0 115 [(0, .ref z0), (1, .int z1), (2, .int z2), (3, .int z3), (5, .int z4), (6, .int z5)] [] z 0 0 rSi (K115 z z0 z1 z2 z3 z4 z5)) (h : AH) (x0 : Nat) (x1 : Int32) (x2 : Int32) (x3 : Int32) (x5 : Int32) (x6 : Int32) (s6 : Int32) (s7 : Int32) (s8 : Int32) (s9 : Nat) : AO l g M_X12_lay false h0 166 [(0, .ref x0), (1, .int x1), (2, .int x2), (3, .int x3), (5, .int x5), (6, .int x6)] [.int s6, .int s7, .int s8, .ref s9] h 0 0 rSi (f_X12_lay_b166 N K115 h x0 x1 x2 x3 x5 x6 s6 s7 s8 s9) := by
  unfold f_X12_lay_b166
  refine a_cV_Sv (r := s9) (ci := 13) (as := [.int s8, .int s7, .int s6]) (st := []) dX12_lay_166 (c_X12_tells l g h s9 s8 s7 s6) rfl km_X12_tells (hm_X12_tells) rfl (by decide) rfl (fun _ ee => g_X12_tells ee) w_methodLink_RainCoverModel_238 w_instanceMethod_RainCoverModel_tells__ZII_V w_selects_RainCoverModel_RainCoverModel_tells__ZII_V_RainCoverModel_tells__ZII_V ⟨⟨by decide, by decide⟩, ⟨by decide, by decide⟩⟩ (Nat.le_of_ble_eq_true rfl) (fun q31 => ?_)
  refine a_iinc (q := 5) (v := (x6 + 1)) (lc2 := [(6, .int (x6 + 1)), (0, .ref x0), (1, .int x1), (2, .int x2), (3, .int x3), (5, .int x5)]) dX12_lay_169 rfl rfl (by decide) rfl ?_
  refine a_goto 115 dX12_lay_172 (by decide) ?_
  refine a_pick (lc2 := [(0, .ref x0), (1, .int x1), (2, .int x2), (3, .int x3), (5, .int x5), (6, .int (x6 + 1))]) [1, 2, 3, 4, 5, 0] rfl ?_
  exact hK115 q31 x0 x1 x2 x3 x5 (x6 + 1)
set_option maxRecDepth 100000 in
set_option maxHeartbeats 4000000 in
theorem t_X12_lay_b115_body (h0 : AH) (N : Nat) (K115 : AH → Nat → Int32 → Int32 → Int32 → Int32 → Int32 → Option (Int32 × AH)) (hK115 : ∀ (z : AH) (z0 : Nat) (z1 : Int32) (z2 : Int32) (z3 : Int32) (z4 : Int32) (z5 : Int32), AO l g M_X12_lay false h0 115 [(0, .ref z0), (1, .int z1), (2, .int z2), (3, .int z3), (5, .int z4), (6, .int z5)] [] z 0 0 rSi (K115 z z0 z1 z2 z3 z4 z5)) (h : AH) (x0 : Nat) (x1 : Int32) (x2 : Int32) (x3 : Int32) (x5 : Int32) (x6 : Int32) : AO l g M_X12_lay false h0 115 [(0, .ref x0), (1, .int x1), (2, .int x2), (3, .int x3), (5, .int x5), (6, .int x6)] [] h 0 0 rSi (f_X12_lay_b115_body N K115 h x0 x1 x2 x3 x5 x6) := by
  unfold f_X12_lay_b115_body
  refine a_iload dX12_lay_115 5 rfl ?_
  refine a_bipush (v := 12) dX12_lay_117 (by decide) ?_
  refine a_icmp_ge 175 dX12_lay_119 (by decide) (fun c24 => ?_) (fun c24 => ?_)
  · refine a_aload_n dX12_lay_175 rfl 0 rfl ?_
    refine a_geti kc13 7 dX12_lay_176 (by decide) rfl w_fieldLink_RainCoverModel_228 (fun v25 => ?_)
    exact a_iret dX12_lay_179 rfl rfl (by decide) (by decide)
  · refine a_aload_n dX12_lay_122 rfl 0 rfl ?_
    refine a_getr kc13 68 dX12_lay_123 (by decide) rfl w_fieldLink_RainCoverModel_182 (fun v26 => ?_)
    refine a_bipush (v := 40) dX12_lay_126 (by decide) ?_
    refine a_iload_n dX12_lay_128 rfl 3 rfl ?_
    refine a_imul dX12_lay_129 ?_
    refine a_iload dX12_lay_130 4 rfl ?_
    refine a_iadd dX12_lay_132 ?_
    refine a_iload dX12_lay_133 5 rfl ?_
    refine a_iadd dX12_lay_135 ?_
    refine a_iald dX12_lay_136 (fun v27 => ?_)
    refine a_istore (lc2 := [(7, .int v27), (0, .ref x0), (1, .int x1), (2, .int x2), (3, .int x3), (5, .int x5), (6, .int x6)]) dX12_lay_137 (by decide) rfl ?_
    refine a_aload_n dX12_lay_139 rfl 1 rfl ?_
    refine a_iconst (v := 0) dX12_lay_140 (by decide) ?_
    refine a_iload_n dX12_lay_141 rfl 2 rfl ?_
    refine a_iload_n dX12_lay_142 rfl 3 rfl ?_
    refine a_iload dX12_lay_143 6 rfl ?_
    refine a_cS_Pi (as := [.int x1, .int x2, .int x6]) (st := [.int 0, .ref x0]) dX12_lay_145 (c_X12_spotOf l g h x1 x2 x6) rfl km_X12_spotOf (hm_X12_spotOf) w_methodLink_RainCoverModel_234 w_static_RainCoverModel_spotOf__III_I ⟨⟨by decide, by decide⟩, ⟨by decide, by decide⟩⟩ (Nat.le_of_ble_eq_true rfl) (fun v28 => ?_)
    refine a_iload dX12_lay_148 0 rfl ?_
    refine a_iconst (v := 0) dX12_lay_150 (by decide) ?_
    refine a_sipush (v := 9999) dX12_lay_151 (by decide) ?_
    refine a_cS_Pi (as := [.int v27, .int 0, .int 9999]) (st := [.int v28, .int 0, .ref x0]) dX12_lay_154 (c_X12_in l g h v27 0 9999) rfl km_X12_in (hm_X12_in) w_methodLink_RainCoverModel_204 w_static_RainCoverModel_in__III_Z ⟨⟨by decide, by decide⟩, ⟨by decide, by decide⟩⟩ (Nat.le_of_ble_eq_true rfl) (fun v29 => ?_)
    refine a_if_eq 165 dX12_lay_157 (by decide) (fun c30 => ?_) (fun c30 => ?_)
    · refine a_iconst (v := (-1)) dX12_lay_165 (by decide) ?_
      refine a_pick (lc2 := [(0, .ref x0), (1, .int x1), (2, .int x2), (3, .int x3), (5, .int x5), (6, .int x6)]) [1, 2, 3, 4, 5, 6] rfl ?_
      exact t_X12_lay_b166 h0 N K115 hK115 h x0 x1 x2 x3 x5 x6 (-1) v28 0 x0
    · refine a_iload dX12_lay_160 0 rfl ?_
      refine a_goto 166 dX12_lay_162 (by decide) ?_
      refine a_pick (lc2 := [(0, .ref x0), (1, .int x1), (2, .int x2), (3, .int x3), (5, .int x5), (6, .int x6)]) [1, 2, 3, 4, 5, 6] rfl ?_
      exact t_X12_lay_b166 h0 N K115 hK115 h x0 x1 x2 x3 x5 x6 v27 v28 0 x0
set_option maxRecDepth 100000 in
set_option maxHeartbeats 4000000 in
theorem t_X12_lay_b115 (h0 : AH) (N : Nat) : ∀ (n : Nat) (h : AH) (x0 : Nat) (x1 : Int32) (x2 : Int32) (x3 : Int32) (x5 : Int32) (x6 : Int32) , AO l g M_X12_lay false h0 115 [(0, .ref x0), (1, .int x1), (2, .int x2), (3, .int x3), (5, .int x5), (6, .int x6)] [] h 0 0 rSi (f_X12_lay_b115 N  n h x0 x1 x2 x3 x5 x6) := by
  intro n
  induction n with
  | zero => intro h x0 x1 x2 x3 x5 x6; exact a_eq rfl a_none
  | succ n ih => intro h x0 x1 x2 x3 x5 x6; exact a_eq rfl (t_X12_lay_b115_body h0 N  (f_X12_lay_b115 N  n) ih h x0 x1 x2 x3 x5 x6)
set_option maxRecDepth 100000 in
set_option maxHeartbeats 4000000 in
theorem t_X12_lay_b61 (h0 : AH) (N : Nat) (h : AH) (x0 : Nat) (x1 : Int32) (x2 : Int32) (x3 : Int32) (x5 : Int32) : AO l g M_X12_lay false h0 61 [(0, .ref x0), (1, .int x1), (2, .int x2), (3, .int x3), (5, .int x5)] [] h 0 0 rSi (f_X12_lay_b61 N  h x0 x1 x2 x3 x5) := by
  unfold f_X12_lay_b61
  refine a_aload_n dX12_lay_61 rfl 0 rfl ?_
  refine a_getr kc13 66 dX12_lay_62 (by decide) rfl w_fieldLink_RainCoverModel_176 (fun v15 => ?_)
  refine a_iload_n dX12_lay_65 rfl 3 rfl ?_
  refine a_iald dX12_lay_66 (fun v16 => ?_)
  refine a_iconst (v := (-1)) dX12_lay_67 (by decide) ?_
  refine a_icmp_ne 74 dX12_lay_68 (by decide) (fun c17 => ?_) (fun c17 => ?_)
  · refine a_bipush (v := (-11)) dX12_lay_71 (by decide) ?_
    exact a_iret dX12_lay_73 rfl rfl (by decide) (by decide)
  · refine a_iload dX12_lay_74 4 rfl ?_
    refine a_if_lt 93 dX12_lay_76 (by decide) (fun c18 => ?_) (fun c18 => ?_)
    · refine a_bipush (v := (-12)) dX12_lay_93 (by decide) ?_
      exact a_iret dX12_lay_95 rfl rfl (by decide) (by decide)
    · refine a_iload dX12_lay_79 4 rfl ?_
      refine a_aload_n dX12_lay_81 rfl 0 rfl ?_
      refine a_getr kc13 67 dX12_lay_82 (by decide) rfl w_fieldLink_RainCoverModel_179 (fun v19 => ?_)
      refine a_iload_n dX12_lay_85 rfl 3 rfl ?_
      refine a_iald dX12_lay_86 (fun v20 => ?_)
      refine a_bipush (v := 12) dX12_lay_87 (by decide) ?_
      refine a_isub dX12_lay_89 ?_
      refine a_icmp_le 96 dX12_lay_90 (by decide) (fun c21 => ?_) (fun c21 => ?_)
      · refine a_aload_n dX12_lay_96 rfl 0 rfl ?_
        refine a_geti kc13 7 dX12_lay_97 (by decide) rfl w_fieldLink_RainCoverModel_228 (fun v22 => ?_)
        refine a_bipush (v := 12) dX12_lay_100 (by decide) ?_
        refine a_iadd dX12_lay_102 ?_
        refine a_sipush (v := 700) dX12_lay_103 (by decide) ?_
        refine a_icmp_le 112 dX12_lay_106 (by decide) (fun c23 => ?_) (fun c23 => ?_)
        · refine a_iconst (v := 0) dX12_lay_112 (by decide) ?_
          refine a_istore (lc2 := [(6, .int 0), (0, .ref x0), (1, .int x1), (2, .int x2), (3, .int x3), (5, .int x5)]) dX12_lay_113 (by decide) rfl ?_
          refine a_pick (lc2 := [(0, .ref x0), (1, .int x1), (2, .int x2), (3, .int x3), (5, .int x5), (6, .int 0)]) [1, 2, 3, 4, 5, 0] rfl ?_
          exact t_X12_lay_b115 h0 N N h x0 x1 x2 x3 x5 0
        · refine a_bipush (v := (-4)) dX12_lay_109 (by decide) ?_
          exact a_iret dX12_lay_111 rfl rfl (by decide) (by decide)
      · refine a_bipush (v := (-12)) dX12_lay_93 (by decide) ?_
        exact a_iret dX12_lay_95 rfl rfl (by decide) (by decide)
end
set_option maxRecDepth 100000 in
set_option maxHeartbeats 4000000 in
theorem c_X12_lay (l : Launch) (g : GG) (h0 : AH) (N : Nat) (p0 : Nat) (p1 : Int32) (p2 : Int32) (p3 : Int32) (p4 : Int32) (p5 : Int32) : CN l g yX12_lay M_X12_lay false [.ref p0, .int p1, .int p2, .int p3, .int p4, .int p5] h0 rSi (f_X12_lay h0 N p0 p1 p2 p3 p4 p5) := by
  refine CN.of (by decide) rfl (fun hh => by first | rfl | cases hh) (Nat.le_of_ble_eq_true rfl) ?_
  unfold f_X12_lay
  refine a_gd (fun hkd => ?_)
  refine a_aload_n dX12_lay_0 rfl 0 rfl ?_
  refine a_iload_n dX12_lay_1 rfl 1 rfl ?_
  refine a_cV_Pi (r := p0) (ci := 13) (as := [.int p1]) (st := []) dX12_lay_2 (c_X12_isGauge l g h0 p0 p1) rfl km_X12_isGauge (hm_X12_isGauge) rfl (by decide) rfl (fun _ ee => g_X12_isGauge ee) w_methodLink_RainCoverModel_225 w_instanceMethod_RainCoverModel_isGauge__I_Z w_selects_RainCoverModel_RainCoverModel_isGauge__I_Z_RainCoverModel_isGauge__I_Z ⟨⟨by decide, by decide⟩, ⟨by decide, by decide⟩⟩ (Nat.le_of_ble_eq_true rfl) (fun v1 => ?_)
  refine a_if_eq 15 dX12_lay_5 (by decide) (fun c2 => ?_) (fun c2 => ?_)
  · refine a_iconst (v := (-1)) dX12_lay_15 (by decide) ?_
    exact a_iret dX12_lay_16 rfl rfl (by decide) (by decide)
  · refine a_iload_n dX12_lay_8 rfl 2 rfl ?_
    refine a_cS_Pi (as := [.int p2]) (st := []) dX12_lay_9 (c_X12_isSeason l g h0 p2) rfl km_X12_isSeason (hm_X12_isSeason) w_methodLink_RainCoverModel_221 w_static_RainCoverModel_isSeason__I_Z ⟨⟨by decide, by decide⟩, ⟨by decide, by decide⟩⟩ (Nat.le_of_ble_eq_true rfl) (fun v3 => ?_)
    refine a_if_ne 17 dX12_lay_12 (by decide) (fun c4 => ?_) (fun c4 => ?_)
    · refine a_iconst (v := (-1)) dX12_lay_15 (by decide) ?_
      exact a_iret dX12_lay_16 rfl rfl (by decide) (by decide)
    · refine a_iload_n dX12_lay_17 rfl 3 rfl ?_
      refine a_cS_Pi (as := [.int p3]) (st := []) dX12_lay_18 (c_X12_isSheet l g h0 p3) rfl km_X12_isSheet (hm_X12_isSheet) w_methodLink_RainCoverModel_246 w_static_RainCoverModel_isSheet__I_Z ⟨⟨by decide, by decide⟩, ⟨by decide, by decide⟩⟩ (Nat.le_of_ble_eq_true rfl) (fun v5 => ?_)
      refine a_if_eq 34 dX12_lay_21 (by decide) (fun c6 => ?_) (fun c6 => ?_)
      · refine a_bipush (v := (-2)) dX12_lay_34 (by decide) ?_
        exact a_iret dX12_lay_36 rfl rfl (by decide) (by decide)
      · refine a_iload dX12_lay_24 4 rfl ?_
        refine a_iconst (v := 0) dX12_lay_26 (by decide) ?_
        refine a_iconst (v := 2) dX12_lay_27 (by decide) ?_
        refine a_cS_Pi (as := [.int p4, .int 0, .int 2]) (st := []) dX12_lay_28 (c_X12_in l g h0 p4 0 2) rfl km_X12_in (hm_X12_in) w_methodLink_RainCoverModel_204 w_static_RainCoverModel_in__III_Z ⟨⟨by decide, by decide⟩, ⟨by decide, by decide⟩⟩ (Nat.le_of_ble_eq_true rfl) (fun v7 => ?_)
        refine a_if_ne 37 dX12_lay_31 (by decide) (fun c8 => ?_) (fun c8 => ?_)
        · refine a_bipush (v := (-2)) dX12_lay_34 (by decide) ?_
          exact a_iret dX12_lay_36 rfl rfl (by decide) (by decide)
        · refine a_aload_n dX12_lay_37 rfl 0 rfl ?_
          refine a_getr kc13 66 dX12_lay_38 (by decide) rfl w_fieldLink_RainCoverModel_176 (fun v9 => ?_)
          refine a_iload_n dX12_lay_41 rfl 3 rfl ?_
          refine a_iald dX12_lay_42 (fun v10 => ?_)
          refine a_iconst (v := (-1)) dX12_lay_43 (by decide) ?_
          refine a_icmp_eq 61 dX12_lay_44 (by decide) (fun c11 => ?_) (fun c11 => ?_)
          · refine a_pick (lc2 := [(0, .ref p0), (1, .int p1), (2, .int p2), (3, .int p3), (5, .int p5)]) [0, 1, 2, 3, 5] rfl ?_
            exact t_X12_lay_b61 h0 N h0 p0 p1 p2 p3 p5
          · refine a_aload_n dX12_lay_47 rfl 0 rfl ?_
            refine a_getr kc13 66 dX12_lay_48 (by decide) rfl w_fieldLink_RainCoverModel_176 (fun v12 => ?_)
            refine a_iload_n dX12_lay_51 rfl 3 rfl ?_
            refine a_iald dX12_lay_52 (fun v13 => ?_)
            refine a_iload dX12_lay_53 4 rfl ?_
            refine a_icmp_eq 61 dX12_lay_55 (by decide) (fun c14 => ?_) (fun c14 => ?_)
            · refine a_pick (lc2 := [(0, .ref p0), (1, .int p1), (2, .int p2), (3, .int p3), (5, .int p5)]) [0, 1, 2, 3, 5] rfl ?_
              exact t_X12_lay_b61 h0 N h0 p0 p1 p2 p3 p5
            · refine a_bipush (v := (-13)) dX12_lay_58 (by decide) ?_
              exact a_iret dX12_lay_60 rfl rfl (by decide) (by decide)
theorem dX12_rainOf_0 : decode cX12_rainOf 0 = .ok (.aload_n 0, 1) := by decide +kernel
theorem dX12_rainOf_1 : decode cX12_rainOf 1 = .ok (.getfield 40, 3) := by decide +kernel
theorem dX12_rainOf_4 : decode cX12_rainOf 4 = .ok (.sipush 1536, 3) := by decide +kernel
theorem dX12_rainOf_7 : decode cX12_rainOf 7 = .ok (.iload_n 1, 1) := by decide +kernel
theorem dX12_rainOf_8 : decode cX12_rainOf 8 = .ok (.imul, 1) := by decide +kernel
theorem dX12_rainOf_9 : decode cX12_rainOf 9 = .ok (.iload_n 2, 1) := by decide +kernel
theorem dX12_rainOf_10 : decode cX12_rainOf 10 = .ok (.iload_n 3, 1) := by decide +kernel
theorem dX12_rainOf_11 : decode cX12_rainOf 11 = .ok (.iload 4, 2) := by decide +kernel
theorem dX12_rainOf_13 : decode cX12_rainOf 13 = .ok (.invokestatic 234, 3) := by decide +kernel
theorem dX12_rainOf_16 : decode cX12_rainOf 16 = .ok (.iadd, 1) := by decide +kernel
theorem dX12_rainOf_17 : decode cX12_rainOf 17 = .ok (.iaload, 1) := by decide +kernel
theorem dX12_rainOf_18 : decode cX12_rainOf 18 = .ok (.ireturn, 1) := by decide +kernel
abbrev M_X12_rainOf : MI := (RX12, cX12_rainOf, 5, (some .int), ({ frames := 1, cells := 0, slots := 0, locals := 22 } : Room), 0, 0, false)
def f_X12_rainOf (h : AH) (p0 : Nat) (p1 : Int32) (p2 : Int32) (p3 : Int32) (p4 : Int32) : Option Int32 := if kd h p0 = 13 + 1 then (xgr h p0 13 11).bind fun v1 => (f_X12_spotOf h p2 p3 p4).bind fun v2 => (xia h v1 ((1536 * p1) + v2)).bind fun v3 => some v3 else none
theorem g_X12_rainOf {h : AH} {p0 : Nat} {p1 : Int32} {p2 : Int32} {p3 : Int32} {p4 : Int32} {x : Int32} (e : f_X12_rainOf h p0 p1 p2 p3 p4 = some x) : kd h p0 = 13 + 1 := by
  unfold f_X12_rainOf at e
  by_cases hk : kd h p0 = 13 + 1
  · exact hk
  · rw [if_neg hk] at e
    cases e
theorem km_X12_rainOf : KM yX12_rainOf M_X12_rainOf 4 := ⟨in_tb 1497 (by decide +kernel) rfl, in_tb 9 (by decide +kernel) rfl, by decide +kernel, rfl, rfl⟩
theorem hm_X12_rainOf : M_X12_rainOf.2.2.2.2.2.1 = 0 ∧ M_X12_rainOf.2.2.2.2.2.2.1 = 0 := ⟨rfl, rfl⟩
section
variable {l : Launch} {g : GG}
end
set_option maxRecDepth 100000 in
set_option maxHeartbeats 4000000 in
theorem c_X12_rainOf (l : Launch) (g : GG) (h : AH) (p0 : Nat) (p1 : Int32) (p2 : Int32) (p3 : Int32) (p4 : Int32) : CN l g yX12_rainOf M_X12_rainOf false [.ref p0, .int p1, .int p2, .int p3, .int p4] h ((rPi h)) (f_X12_rainOf h p0 p1 p2 p3 p4) := by
  refine CN.of (by decide) rfl (fun hh => by first | rfl | cases hh) (Nat.le_of_ble_eq_true rfl) ?_
  unfold f_X12_rainOf
  refine a_gd (fun hkd => ?_)
  refine a_aload_n dX12_rainOf_0 rfl 0 rfl ?_
  refine a_getr kc13 11 dX12_rainOf_1 (by decide) rfl w_fieldLink_RainCoverModel_40 (fun v1 => ?_)
  refine a_sipush (v := 1536) dX12_rainOf_4 (by decide) ?_
  refine a_iload_n dX12_rainOf_7 rfl 1 rfl ?_
  refine a_imul dX12_rainOf_8 ?_
  refine a_iload_n dX12_rainOf_9 rfl 2 rfl ?_
  refine a_iload_n dX12_rainOf_10 rfl 3 rfl ?_
  refine a_iload dX12_rainOf_11 4 rfl ?_
  refine a_cS_Pi (as := [.int p2, .int p3, .int p4]) (st := [.int (1536 * p1), .ref v1]) dX12_rainOf_13 (c_X12_spotOf l g h p2 p3 p4) rfl km_X12_spotOf (hm_X12_spotOf) w_methodLink_RainCoverModel_234 w_static_RainCoverModel_spotOf__III_I ⟨⟨by decide, by decide⟩, ⟨by decide, by decide⟩⟩ (Nat.le_of_ble_eq_true rfl) (fun v2 => ?_)
  refine a_iadd dX12_rainOf_16 ?_
  refine a_iald dX12_rainOf_17 (fun v3 => ?_)
  exact a_iret dX12_rainOf_18 rfl rfl (by decide) (by decide)
theorem dX12_isTold_0 : decode cX12_isTold 0 = .ok (.aload_n 0, 1) := by decide +kernel
theorem dX12_isTold_1 : decode cX12_isTold 1 = .ok (.iload_n 1, 1) := by decide +kernel
theorem dX12_isTold_2 : decode cX12_isTold 2 = .ok (.invokevirtual 225, 3) := by decide +kernel
theorem dX12_isTold_5 : decode cX12_isTold 5 = .ok (.ifCond .eq 26, 3) := by decide +kernel
theorem dX12_isTold_8 : decode cX12_isTold 8 = .ok (.iload_n 2, 1) := by decide +kernel
theorem dX12_isTold_9 : decode cX12_isTold 9 = .ok (.invokestatic 221, 3) := by decide +kernel
theorem dX12_isTold_12 : decode cX12_isTold 12 = .ok (.ifCond .eq 19, 3) := by decide +kernel
theorem dX12_isTold_15 : decode cX12_isTold 15 = .ok (.iload_n 3, 1) := by decide +kernel
theorem dX12_isTold_16 : decode cX12_isTold 16 = .ok (.invokestatic 231, 3) := by decide +kernel
theorem dX12_isTold_19 : decode cX12_isTold 19 = .ok (.ifCond .eq 12, 3) := by decide +kernel
theorem dX12_isTold_22 : decode cX12_isTold 22 = .ok (.iload 4, 2) := by decide +kernel
theorem dX12_isTold_24 : decode cX12_isTold 24 = .ok (.ifCond .lt 7, 3) := by decide +kernel
theorem dX12_isTold_27 : decode cX12_isTold 27 = .ok (.iconst 1, 1) := by decide +kernel
theorem dX12_isTold_28 : decode cX12_isTold 28 = .ok (.goto 4, 3) := by decide +kernel
theorem dX12_isTold_31 : decode cX12_isTold 31 = .ok (.iconst 0, 1) := by decide +kernel
theorem dX12_isTold_32 : decode cX12_isTold 32 = .ok (.ireturn, 1) := by decide +kernel
abbrev M_X12_isTold : MI := (RX12, cX12_isTold, 5, (some .boolean), ({ frames := 2, cells := 0, slots := 0, locals := 43 } : Room), 0, 0, false)
def f_X12_isTold (h : AH) (p0 : Nat) (p1 : Int32) (p2 : Int32) (p3 : Int32) (p4 : Int32) : Option Int32 := if kd h p0 = 13 + 1 then (f_X12_isGauge h p0 p1).bind fun v1 => (if v1 = 0 then some 0 else (f_X12_isSeason h p2).bind fun v3 => (if v3 = 0 then some 0 else (f_X12_isWeek h p3).bind fun v5 => (if v5 = 0 then some 0 else (if p4 < 0 then some 0 else some 1)))) else none
theorem g_X12_isTold {h : AH} {p0 : Nat} {p1 : Int32} {p2 : Int32} {p3 : Int32} {p4 : Int32} {x : Int32} (e : f_X12_isTold h p0 p1 p2 p3 p4 = some x) : kd h p0 = 13 + 1 := by
  unfold f_X12_isTold at e
  by_cases hk : kd h p0 = 13 + 1
  · exact hk
  · rw [if_neg hk] at e
    cases e
theorem km_X12_isTold : KM yX12_isTold M_X12_isTold 4 := ⟨in_tb 1493 (by decide +kernel) rfl, in_tb 9 (by decide +kernel) rfl, by decide +kernel, rfl, rfl⟩
theorem hm_X12_isTold : M_X12_isTold.2.2.2.2.2.1 = 0 ∧ M_X12_isTold.2.2.2.2.2.2.1 = 0 := ⟨rfl, rfl⟩
section
variable {l : Launch} {g : GG}
end
set_option maxRecDepth 100000 in
set_option maxHeartbeats 4000000 in
theorem c_X12_isTold (l : Launch) (g : GG) (h : AH) (p0 : Nat) (p1 : Int32) (p2 : Int32) (p3 : Int32) (p4 : Int32) : CN l g yX12_isTold M_X12_isTold false [.ref p0, .int p1, .int p2, .int p3, .int p4] h ((rPi h)) (f_X12_isTold h p0 p1 p2 p3 p4) := by
  refine CN.of (by decide) rfl (fun hh => by first | rfl | cases hh) (Nat.le_of_ble_eq_true rfl) ?_
  unfold f_X12_isTold
  refine a_gd (fun hkd => ?_)
  refine a_aload_n dX12_isTold_0 rfl 0 rfl ?_
  refine a_iload_n dX12_isTold_1 rfl 1 rfl ?_
  refine a_cV_Pi (r := p0) (ci := 13) (as := [.int p1]) (st := []) dX12_isTold_2 (c_X12_isGauge l g h p0 p1) rfl km_X12_isGauge (hm_X12_isGauge) rfl (by decide) rfl (fun _ ee => g_X12_isGauge ee) w_methodLink_RainCoverModel_225 w_instanceMethod_RainCoverModel_isGauge__I_Z w_selects_RainCoverModel_RainCoverModel_isGauge__I_Z_RainCoverModel_isGauge__I_Z ⟨⟨by decide, by decide⟩, ⟨by decide, by decide⟩⟩ (Nat.le_of_ble_eq_true rfl) (fun v1 => ?_)
  refine a_if_eq 31 dX12_isTold_5 (by decide) (fun c2 => ?_) (fun c2 => ?_)
  · refine a_iconst (v := 0) dX12_isTold_31 (by decide) ?_
    exact a_zret dX12_isTold_32 rfl (Or.inl rfl) rfl (by decide) (by decide)
  · refine a_iload_n dX12_isTold_8 rfl 2 rfl ?_
    refine a_cS_Pi (as := [.int p2]) (st := []) dX12_isTold_9 (c_X12_isSeason l g h p2) rfl km_X12_isSeason (hm_X12_isSeason) w_methodLink_RainCoverModel_221 w_static_RainCoverModel_isSeason__I_Z ⟨⟨by decide, by decide⟩, ⟨by decide, by decide⟩⟩ (Nat.le_of_ble_eq_true rfl) (fun v3 => ?_)
    refine a_if_eq 31 dX12_isTold_12 (by decide) (fun c4 => ?_) (fun c4 => ?_)
    · refine a_iconst (v := 0) dX12_isTold_31 (by decide) ?_
      exact a_zret dX12_isTold_32 rfl (Or.inl rfl) rfl (by decide) (by decide)
    · refine a_iload_n dX12_isTold_15 rfl 3 rfl ?_
      refine a_cS_Pi (as := [.int p3]) (st := []) dX12_isTold_16 (c_X12_isWeek l g h p3) rfl km_X12_isWeek (hm_X12_isWeek) w_methodLink_RainCoverModel_231 w_static_RainCoverModel_isWeek__I_Z ⟨⟨by decide, by decide⟩, ⟨by decide, by decide⟩⟩ (Nat.le_of_ble_eq_true rfl) (fun v5 => ?_)
      refine a_if_eq 31 dX12_isTold_19 (by decide) (fun c6 => ?_) (fun c6 => ?_)
      · refine a_iconst (v := 0) dX12_isTold_31 (by decide) ?_
        exact a_zret dX12_isTold_32 rfl (Or.inl rfl) rfl (by decide) (by decide)
      · refine a_iload dX12_isTold_22 4 rfl ?_
        refine a_if_lt 31 dX12_isTold_24 (by decide) (fun c7 => ?_) (fun c7 => ?_)
        · refine a_iconst (v := 0) dX12_isTold_31 (by decide) ?_
          exact a_zret dX12_isTold_32 rfl (Or.inl rfl) rfl (by decide) (by decide)
        · refine a_iconst (v := 1) dX12_isTold_27 (by decide) ?_
          refine a_goto 32 dX12_isTold_28 (by decide) ?_
          exact a_zret dX12_isTold_32 rfl (Or.inr rfl) rfl (by decide) (by decide)
theorem dX12_told_0 : decode cX12_told 0 = .ok (.aload_n 0, 1) := by decide +kernel
theorem dX12_told_1 : decode cX12_told 1 = .ok (.iload_n 1, 1) := by decide +kernel
theorem dX12_told_2 : decode cX12_told 2 = .ok (.iload_n 2, 1) := by decide +kernel
theorem dX12_told_3 : decode cX12_told 3 = .ok (.iload_n 3, 1) := by decide +kernel
theorem dX12_told_4 : decode cX12_told 4 = .ok (.iload 4, 2) := by decide +kernel
theorem dX12_told_6 : decode cX12_told 6 = .ok (.invokevirtual 249, 3) := by decide +kernel
theorem dX12_told_9 : decode cX12_told 9 = .ok (.ifCond .eq 19, 3) := by decide +kernel
theorem dX12_told_12 : decode cX12_told 12 = .ok (.aload_n 0, 1) := by decide +kernel
theorem dX12_told_13 : decode cX12_told 13 = .ok (.aload_n 0, 1) := by decide +kernel
theorem dX12_told_14 : decode cX12_told 14 = .ok (.iload 4, 2) := by decide +kernel
theorem dX12_told_16 : decode cX12_told 16 = .ok (.invokevirtual 242, 3) := by decide +kernel
theorem dX12_told_19 : decode cX12_told 19 = .ok (.iload_n 1, 1) := by decide +kernel
theorem dX12_told_20 : decode cX12_told 20 = .ok (.iload_n 2, 1) := by decide +kernel
theorem dX12_told_21 : decode cX12_told 21 = .ok (.iload_n 3, 1) := by decide +kernel
theorem dX12_told_22 : decode cX12_told 22 = .ok (.invokevirtual 253, 3) := by decide +kernel
theorem dX12_told_25 : decode cX12_told 25 = .ok (.goto 5, 3) := by decide +kernel
theorem dX12_told_28 : decode cX12_told 28 = .ok (.bipush (-5), 2) := by decide +kernel
theorem dX12_told_30 : decode cX12_told 30 = .ok (.ireturn, 1) := by decide +kernel
abbrev M_X12_told : MI := (RX12, cX12_told, 5, (some .int), ({ frames := 3, cells := 0, slots := 0, locals := 67 } : Room), 0, 0, false)
def f_X12_told (h0 : AH) (N : Nat) (p0 : Nat) (p1 : Int32) (p2 : Int32) (p3 : Int32) (p4 : Int32) : Option (Int32 × AH) := if kd h0 p0 = 13 + 1 then (f_X12_isTold h0 p0 p1 p2 p3 p4).bind fun v1 => (if v1 = 0 then some ((-5), h0) else (f_X12_known h0 N p0 p4).bind fun q3 => (f_X12_rainOf q3.2 p0 q3.1 p1 p2 p3).bind fun v4 => some (v4, q3.2)) else none
theorem g_X12_told {h0 : AH} {N : Nat} {p0 : Nat} {p1 : Int32} {p2 : Int32} {p3 : Int32} {p4 : Int32} {x : (Int32 × AH)} (e : f_X12_told h0 N p0 p1 p2 p3 p4 = some x) : kd h0 p0 = 13 + 1 := by
  unfold f_X12_told at e
  by_cases hk : kd h0 p0 = 13 + 1
  · exact hk
  · rw [if_neg hk] at e
    cases e
theorem km_X12_told : KM yX12_told M_X12_told 4 := ⟨in_tb 1489 (by decide +kernel) rfl, in_tb 9 (by decide +kernel) rfl, by decide +kernel, rfl, rfl⟩
theorem hm_X12_told : M_X12_told.2.2.2.2.2.1 = 0 ∧ M_X12_told.2.2.2.2.2.2.1 = 0 := ⟨rfl, rfl⟩
section
variable {l : Launch} {g : GG}
end
set_option maxRecDepth 100000 in
set_option maxHeartbeats 4000000 in
theorem c_X12_told (l : Launch) (g : GG) (h0 : AH) (N : Nat) (p0 : Nat) (p1 : Int32) (p2 : Int32) (p3 : Int32) (p4 : Int32) : CN l g yX12_told M_X12_told false [.ref p0, .int p1, .int p2, .int p3, .int p4] h0 rSi (f_X12_told h0 N p0 p1 p2 p3 p4) := by
  refine CN.of (by decide) rfl (fun hh => by first | rfl | cases hh) (Nat.le_of_ble_eq_true rfl) ?_
  unfold f_X12_told
  refine a_gd (fun hkd => ?_)
  refine a_aload_n dX12_told_0 rfl 0 rfl ?_
  refine a_iload_n dX12_told_1 rfl 1 rfl ?_
  refine a_iload_n dX12_told_2 rfl 2 rfl ?_
  refine a_iload_n dX12_told_3 rfl 3 rfl ?_
  refine a_iload dX12_told_4 4 rfl ?_
  refine a_cV_Pi (r := p0) (ci := 13) (as := [.int p1, .int p2, .int p3, .int p4]) (st := []) dX12_told_6 (c_X12_isTold l g h0 p0 p1 p2 p3 p4) rfl km_X12_isTold (hm_X12_isTold) rfl (by decide) rfl (fun _ ee => g_X12_isTold ee) w_methodLink_RainCoverModel_249 w_instanceMethod_RainCoverModel_isTold__IIII_Z w_selects_RainCoverModel_RainCoverModel_isTold__IIII_Z_RainCoverModel_isTold__IIII_Z ⟨⟨by decide, by decide⟩, ⟨by decide, by decide⟩⟩ (Nat.le_of_ble_eq_true rfl) (fun v1 => ?_)
  refine a_if_eq 28 dX12_told_9 (by decide) (fun c2 => ?_) (fun c2 => ?_)
  · refine a_bipush (v := (-5)) dX12_told_28 (by decide) ?_
    exact a_iret dX12_told_30 rfl rfl (by decide) (by decide)
  · refine a_aload_n dX12_told_12 rfl 0 rfl ?_
    refine a_aload_n dX12_told_13 rfl 0 rfl ?_
    refine a_iload dX12_told_14 4 rfl ?_
    refine a_cV_Si (r := p0) (ci := 13) (as := [.int p4]) (st := [.ref p0]) dX12_told_16 (c_X12_known l g h0 N p0 p4) rfl km_X12_known (hm_X12_known) rfl (by decide) rfl (fun _ ee => g_X12_known ee) w_methodLink_RainCoverModel_242 w_instanceMethod_RainCoverModel_known__I_I w_selects_RainCoverModel_RainCoverModel_known__I_I_RainCoverModel_known__I_I ⟨⟨by decide, by decide⟩, ⟨by decide, by decide⟩⟩ (Nat.le_of_ble_eq_true rfl) (fun q3 => ?_)
    refine a_iload_n dX12_told_19 rfl 1 rfl ?_
    refine a_iload_n dX12_told_20 rfl 2 rfl ?_
    refine a_iload_n dX12_told_21 rfl 3 rfl ?_
    refine a_cV_Pi (r := p0) (ci := 13) (as := [.int q3.1, .int p1, .int p2, .int p3]) (st := []) dX12_told_22 (c_X12_rainOf l g q3.2 p0 q3.1 p1 p2 p3) rfl km_X12_rainOf (hm_X12_rainOf) rfl (by decide) rfl (fun _ ee => g_X12_rainOf ee) w_methodLink_RainCoverModel_253 w_instanceMethod_RainCoverModel_rainOf__IIII_I w_selects_RainCoverModel_RainCoverModel_rainOf__IIII_I_RainCoverModel_rainOf__IIII_I ⟨⟨by decide, by decide⟩, ⟨by decide, by decide⟩⟩ (Nat.le_of_ble_eq_true rfl) (fun v4 => ?_)
    refine a_goto 30 dX12_told_25 (by decide) ?_
    exact a_iret dX12_told_30 rfl rfl (by decide) (by decide)
theorem dX12_between_0 : decode cX12_between 0 = .ok (.aload_n 0, 1) := by decide +kernel
theorem dX12_between_1 : decode cX12_between 1 = .ok (.getfield 9, 3) := by decide +kernel
theorem dX12_between_4 : decode cX12_between 4 = .ok (.iload_n 1, 1) := by decide +kernel
theorem dX12_between_5 : decode cX12_between 5 = .ok (.iaload, 1) := by decide +kernel
theorem dX12_between_6 : decode cX12_between 6 = .ok (.aload_n 0, 1) := by decide +kernel
theorem dX12_between_7 : decode cX12_between 7 = .ok (.getfield 9, 3) := by decide +kernel
theorem dX12_between_10 : decode cX12_between 10 = .ok (.iload_n 2, 1) := by decide +kernel
theorem dX12_between_11 : decode cX12_between 11 = .ok (.iaload, 1) := by decide +kernel
theorem dX12_between_12 : decode cX12_between 12 = .ok (.invokestatic 257, 3) := by decide +kernel
theorem dX12_between_15 : decode cX12_between 15 = .ok (.aload_n 0, 1) := by decide +kernel
theorem dX12_between_16 : decode cX12_between 16 = .ok (.getfield 15, 3) := by decide +kernel
theorem dX12_between_19 : decode cX12_between 19 = .ok (.iload_n 1, 1) := by decide +kernel
theorem dX12_between_20 : decode cX12_between 20 = .ok (.iaload, 1) := by decide +kernel
theorem dX12_between_21 : decode cX12_between 21 = .ok (.aload_n 0, 1) := by decide +kernel
theorem dX12_between_22 : decode cX12_between 22 = .ok (.getfield 15, 3) := by decide +kernel
theorem dX12_between_25 : decode cX12_between 25 = .ok (.iload_n 2, 1) := by decide +kernel
theorem dX12_between_26 : decode cX12_between 26 = .ok (.iaload, 1) := by decide +kernel
theorem dX12_between_27 : decode cX12_between 27 = .ok (.invokestatic 257, 3) := by decide +kernel
theorem dX12_between_30 : decode cX12_between 30 = .ok (.iadd, 1) := by decide +kernel
theorem dX12_between_31 : decode cX12_between 31 = .ok (.ireturn, 1) := by decide +kernel
abbrev M_X12_between : MI := (RX12, cX12_between, 3, (some .int), ({ frames := 1, cells := 0, slots := 0, locals := 21 } : Room), 0, 0, false)
def f_X12_between (h : AH) (p0 : Nat) (p1 : Int32) (p2 : Int32) : Option Int32 := if kd h p0 = 13 + 1 then (xgr h p0 13 1).bind fun v1 => (xia h v1 p1).bind fun v2 => (xgr h p0 13 1).bind fun v3 => (xia h v3 p2).bind fun v4 => (f_X12_apart h v2 v4).bind fun v5 => (xgr h p0 13 2).bind fun v6 => (xia h v6 p1).bind fun v7 => (xgr h p0 13 2).bind fun v8 => (xia h v8 p2).bind fun v9 => (f_X12_apart h v7 v9).bind fun v10 => some (v5 + v10) else none
theorem g_X12_between {h : AH} {p0 : Nat} {p1 : Int32} {p2 : Int32} {x : Int32} (e : f_X12_between h p0 p1 p2 = some x) : kd h p0 = 13 + 1 := by
  unfold f_X12_between at e
  by_cases hk : kd h p0 = 13 + 1
  · exact hk
  · rw [if_neg hk] at e
    cases e
theorem km_X12_between : KM yX12_between M_X12_between 2 := ⟨in_tb 1513 (by decide +kernel) rfl, in_tb 9 (by decide +kernel) rfl, by decide +kernel, rfl, rfl⟩
theorem hm_X12_between : M_X12_between.2.2.2.2.2.1 = 0 ∧ M_X12_between.2.2.2.2.2.2.1 = 0 := ⟨rfl, rfl⟩
section
variable {l : Launch} {g : GG}
end
set_option maxRecDepth 100000 in
set_option maxHeartbeats 4000000 in
theorem c_X12_between (l : Launch) (g : GG) (h : AH) (p0 : Nat) (p1 : Int32) (p2 : Int32) : CN l g yX12_between M_X12_between false [.ref p0, .int p1, .int p2] h ((rPi h)) (f_X12_between h p0 p1 p2) := by
  refine CN.of (by decide) rfl (fun hh => by first | rfl | cases hh) (Nat.le_of_ble_eq_true rfl) ?_
  unfold f_X12_between
  refine a_gd (fun hkd => ?_)
  refine a_aload_n dX12_between_0 rfl 0 rfl ?_
  refine a_getr kc13 1 dX12_between_1 (by decide) rfl w_fieldLink_RainCoverModel_9 (fun v1 => ?_)
  refine a_iload_n dX12_between_4 rfl 1 rfl ?_
  refine a_iald dX12_between_5 (fun v2 => ?_)
  refine a_aload_n dX12_between_6 rfl 0 rfl ?_
  refine a_getr kc13 1 dX12_between_7 (by decide) rfl w_fieldLink_RainCoverModel_9 (fun v3 => ?_)
  refine a_iload_n dX12_between_10 rfl 2 rfl ?_
  refine a_iald dX12_between_11 (fun v4 => ?_)
  refine a_cS_Pi (as := [.int v2, .int v4]) (st := []) dX12_between_12 (c_X12_apart l g h v2 v4) rfl km_X12_apart (hm_X12_apart) w_methodLink_RainCoverModel_257 w_static_RainCoverModel_apart__II_I ⟨⟨by decide, by decide⟩, ⟨by decide, by decide⟩⟩ (Nat.le_of_ble_eq_true rfl) (fun v5 => ?_)
  refine a_aload_n dX12_between_15 rfl 0 rfl ?_
  refine a_getr kc13 2 dX12_between_16 (by decide) rfl w_fieldLink_RainCoverModel_15 (fun v6 => ?_)
  refine a_iload_n dX12_between_19 rfl 1 rfl ?_
  refine a_iald dX12_between_20 (fun v7 => ?_)
  refine a_aload_n dX12_between_21 rfl 0 rfl ?_
  refine a_getr kc13 2 dX12_between_22 (by decide) rfl w_fieldLink_RainCoverModel_15 (fun v8 => ?_)
  refine a_iload_n dX12_between_25 rfl 2 rfl ?_
  refine a_iald dX12_between_26 (fun v9 => ?_)
  refine a_cS_Pi (as := [.int v7, .int v9]) (st := [.int v5]) dX12_between_27 (c_X12_apart l g h v7 v9) rfl km_X12_apart (hm_X12_apart) w_methodLink_RainCoverModel_257 w_static_RainCoverModel_apart__II_I ⟨⟨by decide, by decide⟩, ⟨by decide, by decide⟩⟩ (Nat.le_of_ble_eq_true rfl) (fun v10 => ?_)
  refine a_iadd dX12_between_30 ?_
  exact a_iret dX12_between_31 rfl rfl (by decide) (by decide)
theorem dX12_areNear_0 : decode cX12_areNear 0 = .ok (.iload_n 1, 1) := by decide +kernel
theorem dX12_areNear_1 : decode cX12_areNear 1 = .ok (.iload_n 2, 1) := by decide +kernel
theorem dX12_areNear_2 : decode cX12_areNear 2 = .ok (.if_icmp .eq 22, 3) := by decide +kernel
theorem dX12_areNear_5 : decode cX12_areNear 5 = .ok (.aload_n 0, 1) := by decide +kernel
theorem dX12_areNear_6 : decode cX12_areNear 6 = .ok (.iload_n 1, 1) := by decide +kernel
theorem dX12_areNear_7 : decode cX12_areNear 7 = .ok (.iload_n 2, 1) := by decide +kernel
theorem dX12_areNear_8 : decode cX12_areNear 8 = .ok (.invokevirtual 261, 3) := by decide +kernel
theorem dX12_areNear_11 : decode cX12_areNear 11 = .ok (.aload_n 0, 1) := by decide +kernel
theorem dX12_areNear_12 : decode cX12_areNear 12 = .ok (.getfield 24, 3) := by decide +kernel
theorem dX12_areNear_15 : decode cX12_areNear 15 = .ok (.iconst 0, 1) := by decide +kernel
theorem dX12_areNear_16 : decode cX12_areNear 16 = .ok (.iaload, 1) := by decide +kernel
theorem dX12_areNear_17 : decode cX12_areNear 17 = .ok (.if_icmp .gt 7, 3) := by decide +kernel
theorem dX12_areNear_20 : decode cX12_areNear 20 = .ok (.iconst 1, 1) := by decide +kernel
theorem dX12_areNear_21 : decode cX12_areNear 21 = .ok (.goto 4, 3) := by decide +kernel
theorem dX12_areNear_24 : decode cX12_areNear 24 = .ok (.iconst 0, 1) := by decide +kernel
theorem dX12_areNear_25 : decode cX12_areNear 25 = .ok (.ireturn, 1) := by decide +kernel
abbrev M_X12_areNear : MI := (RX12, cX12_areNear, 3, (some .boolean), ({ frames := 2, cells := 0, slots := 0, locals := 43 } : Room), 0, 0, false)
def f_X12_areNear (h : AH) (p0 : Nat) (p1 : Int32) (p2 : Int32) : Option Int32 := if kd h p0 = 13 + 1 then (if p1 = p2 then some 0 else (f_X12_between h p0 p1 p2).bind fun v2 => (xgr h p0 13 5).bind fun v3 => (xia h v3 0).bind fun v4 => (if v4 < v2 then some 0 else some 1)) else none
theorem g_X12_areNear {h : AH} {p0 : Nat} {p1 : Int32} {p2 : Int32} {x : Int32} (e : f_X12_areNear h p0 p1 p2 = some x) : kd h p0 = 13 + 1 := by
  unfold f_X12_areNear at e
  by_cases hk : kd h p0 = 13 + 1
  · exact hk
  · rw [if_neg hk] at e
    cases e
theorem km_X12_areNear : KM yX12_areNear M_X12_areNear 2 := ⟨in_tb 1509 (by decide +kernel) rfl, in_tb 9 (by decide +kernel) rfl, by decide +kernel, rfl, rfl⟩
theorem hm_X12_areNear : M_X12_areNear.2.2.2.2.2.1 = 0 ∧ M_X12_areNear.2.2.2.2.2.2.1 = 0 := ⟨rfl, rfl⟩
section
variable {l : Launch} {g : GG}
end
set_option maxRecDepth 100000 in
set_option maxHeartbeats 4000000 in
theorem c_X12_areNear (l : Launch) (g : GG) (h : AH) (p0 : Nat) (p1 : Int32) (p2 : Int32) : CN l g yX12_areNear M_X12_areNear false [.ref p0, .int p1, .int p2] h ((rPi h)) (f_X12_areNear h p0 p1 p2) := by
  refine CN.of (by decide) rfl (fun hh => by first | rfl | cases hh) (Nat.le_of_ble_eq_true rfl) ?_
  unfold f_X12_areNear
  refine a_gd (fun hkd => ?_)
  refine a_iload_n dX12_areNear_0 rfl 1 rfl ?_
  refine a_iload_n dX12_areNear_1 rfl 2 rfl ?_
  refine a_icmp_eq 24 dX12_areNear_2 (by decide) (fun c1 => ?_) (fun c1 => ?_)
  · refine a_iconst (v := 0) dX12_areNear_24 (by decide) ?_
    exact a_zret dX12_areNear_25 rfl (Or.inl rfl) rfl (by decide) (by decide)
  · refine a_aload_n dX12_areNear_5 rfl 0 rfl ?_
    refine a_iload_n dX12_areNear_6 rfl 1 rfl ?_
    refine a_iload_n dX12_areNear_7 rfl 2 rfl ?_
    refine a_cV_Pi (r := p0) (ci := 13) (as := [.int p1, .int p2]) (st := []) dX12_areNear_8 (c_X12_between l g h p0 p1 p2) rfl km_X12_between (hm_X12_between) rfl (by decide) rfl (fun _ ee => g_X12_between ee) w_methodLink_RainCoverModel_261 w_instanceMethod_RainCoverModel_between__II_I w_selects_RainCoverModel_RainCoverModel_between__II_I_RainCoverModel_between__II_I ⟨⟨by decide, by decide⟩, ⟨by decide, by decide⟩⟩ (Nat.le_of_ble_eq_true rfl) (fun v2 => ?_)
    refine a_aload_n dX12_areNear_11 rfl 0 rfl ?_
    refine a_getr kc13 5 dX12_areNear_12 (by decide) rfl w_fieldLink_RainCoverModel_24 (fun v3 => ?_)
    refine a_iconst (v := 0) dX12_areNear_15 (by decide) ?_
    refine a_iald dX12_areNear_16 (fun v4 => ?_)
    refine a_icmp_gt 24 dX12_areNear_17 (by decide) (fun c5 => ?_) (fun c5 => ?_)
    · refine a_iconst (v := 0) dX12_areNear_24 (by decide) ?_
      exact a_zret dX12_areNear_25 rfl (Or.inl rfl) rfl (by decide) (by decide)
    · refine a_iconst (v := 1) dX12_areNear_20 (by decide) ?_
      refine a_goto 25 dX12_areNear_21 (by decide) ?_
      exact a_zret dX12_areNear_25 rfl (Or.inr rfl) rfl (by decide) (by decide)
theorem dX12_filledOf_0 : decode cX12_filledOf 0 = .ok (.aload_n 0, 1) := by decide +kernel
theorem dX12_filledOf_1 : decode cX12_filledOf 1 = .ok (.iload_n 1, 1) := by decide +kernel
theorem dX12_filledOf_2 : decode cX12_filledOf 2 = .ok (.iload_n 2, 1) := by decide +kernel
theorem dX12_filledOf_3 : decode cX12_filledOf 3 = .ok (.iload_n 3, 1) := by decide +kernel
theorem dX12_filledOf_4 : decode cX12_filledOf 4 = .ok (.iload 4, 2) := by decide +kernel
theorem dX12_filledOf_6 : decode cX12_filledOf 6 = .ok (.invokevirtual 253, 3) := by decide +kernel
theorem dX12_filledOf_9 : decode cX12_filledOf 9 = .ok (.istore 5, 2) := by decide +kernel
theorem dX12_filledOf_11 : decode cX12_filledOf 11 = .ok (.iload 5, 2) := by decide +kernel
theorem dX12_filledOf_13 : decode cX12_filledOf 13 = .ok (.iconst (-1), 1) := by decide +kernel
theorem dX12_filledOf_14 : decode cX12_filledOf 14 = .ok (.if_icmp .eq 6, 3) := by decide +kernel
theorem dX12_filledOf_17 : decode cX12_filledOf 17 = .ok (.iload 5, 2) := by decide +kernel
theorem dX12_filledOf_19 : decode cX12_filledOf 19 = .ok (.ireturn, 1) := by decide +kernel
theorem dX12_filledOf_20 : decode cX12_filledOf 20 = .ok (.iconst (-1), 1) := by decide +kernel
theorem dX12_filledOf_21 : decode cX12_filledOf 21 = .ok (.istore 6, 2) := by decide +kernel
theorem dX12_filledOf_23 : decode cX12_filledOf 23 = .ok (.iconst 0, 1) := by decide +kernel
theorem dX12_filledOf_24 : decode cX12_filledOf 24 = .ok (.istore 7, 2) := by decide +kernel
theorem dX12_filledOf_26 : decode cX12_filledOf 26 = .ok (.iload 7, 2) := by decide +kernel
theorem dX12_filledOf_28 : decode cX12_filledOf 28 = .ok (.aload_n 0, 1) := by decide +kernel
theorem dX12_filledOf_29 : decode cX12_filledOf 29 = .ok (.getfield 208, 3) := by decide +kernel
theorem dX12_filledOf_32 : decode cX12_filledOf 32 = .ok (.if_icmp .ge 77, 3) := by decide +kernel
theorem dX12_filledOf_35 : decode cX12_filledOf 35 = .ok (.aload_n 0, 1) := by decide +kernel
theorem dX12_filledOf_36 : decode cX12_filledOf 36 = .ok (.iload_n 2, 1) := by decide +kernel
theorem dX12_filledOf_37 : decode cX12_filledOf 37 = .ok (.iload 7, 2) := by decide +kernel
theorem dX12_filledOf_39 : decode cX12_filledOf 39 = .ok (.invokevirtual 264, 3) := by decide +kernel
theorem dX12_filledOf_42 : decode cX12_filledOf 42 = .ok (.ifCond .eq 21, 3) := by decide +kernel
theorem dX12_filledOf_45 : decode cX12_filledOf 45 = .ok (.aload_n 0, 1) := by decide +kernel
theorem dX12_filledOf_46 : decode cX12_filledOf 46 = .ok (.iload_n 1, 1) := by decide +kernel
theorem dX12_filledOf_47 : decode cX12_filledOf 47 = .ok (.iload 7, 2) := by decide +kernel
theorem dX12_filledOf_49 : decode cX12_filledOf 49 = .ok (.iload_n 3, 1) := by decide +kernel
theorem dX12_filledOf_50 : decode cX12_filledOf 50 = .ok (.iload 4, 2) := by decide +kernel
theorem dX12_filledOf_52 : decode cX12_filledOf 52 = .ok (.invokevirtual 253, 3) := by decide +kernel
theorem dX12_filledOf_55 : decode cX12_filledOf 55 = .ok (.iconst (-1), 1) := by decide +kernel
theorem dX12_filledOf_56 : decode cX12_filledOf 56 = .ok (.if_icmp .eq 7, 3) := by decide +kernel
theorem dX12_filledOf_59 : decode cX12_filledOf 59 = .ok (.iconst 1, 1) := by decide +kernel
theorem dX12_filledOf_60 : decode cX12_filledOf 60 = .ok (.goto 4, 3) := by decide +kernel
theorem dX12_filledOf_63 : decode cX12_filledOf 63 = .ok (.iconst 0, 1) := by decide +kernel
theorem dX12_filledOf_64 : decode cX12_filledOf 64 = .ok (.istore 8, 2) := by decide +kernel
theorem dX12_filledOf_66 : decode cX12_filledOf 66 = .ok (.iload 8, 2) := by decide +kernel
theorem dX12_filledOf_68 : decode cX12_filledOf 68 = .ok (.ifCond .eq 31, 3) := by decide +kernel
theorem dX12_filledOf_71 : decode cX12_filledOf 71 = .ok (.iload 6, 2) := by decide +kernel
theorem dX12_filledOf_73 : decode cX12_filledOf 73 = .ok (.iconst (-1), 1) := by decide +kernel
theorem dX12_filledOf_74 : decode cX12_filledOf 74 = .ok (.if_icmp .eq 20, 3) := by decide +kernel
theorem dX12_filledOf_77 : decode cX12_filledOf 77 = .ok (.aload_n 0, 1) := by decide +kernel
theorem dX12_filledOf_78 : decode cX12_filledOf 78 = .ok (.iload_n 2, 1) := by decide +kernel
theorem dX12_filledOf_79 : decode cX12_filledOf 79 = .ok (.iload 7, 2) := by decide +kernel
theorem dX12_filledOf_81 : decode cX12_filledOf 81 = .ok (.invokevirtual 261, 3) := by decide +kernel
theorem dX12_filledOf_84 : decode cX12_filledOf 84 = .ok (.aload_n 0, 1) := by decide +kernel
theorem dX12_filledOf_85 : decode cX12_filledOf 85 = .ok (.iload_n 2, 1) := by decide +kernel
theorem dX12_filledOf_86 : decode cX12_filledOf 86 = .ok (.iload 6, 2) := by decide +kernel
theorem dX12_filledOf_88 : decode cX12_filledOf 88 = .ok (.invokevirtual 261, 3) := by decide +kernel
theorem dX12_filledOf_91 : decode cX12_filledOf 91 = .ok (.if_icmp .ge 8, 3) := by decide +kernel
theorem dX12_filledOf_94 : decode cX12_filledOf 94 = .ok (.iload 7, 2) := by decide +kernel
theorem dX12_filledOf_96 : decode cX12_filledOf 96 = .ok (.goto 5, 3) := by decide +kernel
theorem dX12_filledOf_99 : decode cX12_filledOf 99 = .ok (.iload 6, 2) := by decide +kernel
theorem dX12_filledOf_101 : decode cX12_filledOf 101 = .ok (.istore 6, 2) := by decide +kernel
theorem dX12_filledOf_103 : decode cX12_filledOf 103 = .ok (.iinc 7 1, 3) := by decide +kernel
theorem dX12_filledOf_106 : decode cX12_filledOf 106 = .ok (.goto (-80), 3) := by decide +kernel
theorem dX12_filledOf_109 : decode cX12_filledOf 109 = .ok (.iload 6, 2) := by decide +kernel
theorem dX12_filledOf_111 : decode cX12_filledOf 111 = .ok (.iconst (-1), 1) := by decide +kernel
theorem dX12_filledOf_112 : decode cX12_filledOf 112 = .ok (.if_icmp .eq 14, 3) := by decide +kernel
theorem dX12_filledOf_115 : decode cX12_filledOf 115 = .ok (.aload_n 0, 1) := by decide +kernel
theorem dX12_filledOf_116 : decode cX12_filledOf 116 = .ok (.iload_n 1, 1) := by decide +kernel
theorem dX12_filledOf_117 : decode cX12_filledOf 117 = .ok (.iload 6, 2) := by decide +kernel
theorem dX12_filledOf_119 : decode cX12_filledOf 119 = .ok (.iload_n 3, 1) := by decide +kernel
theorem dX12_filledOf_120 : decode cX12_filledOf 120 = .ok (.iload 4, 2) := by decide +kernel
theorem dX12_filledOf_122 : decode cX12_filledOf 122 = .ok (.invokevirtual 253, 3) := by decide +kernel
theorem dX12_filledOf_125 : decode cX12_filledOf 125 = .ok (.ireturn, 1) := by decide +kernel
theorem dX12_filledOf_126 : decode cX12_filledOf 126 = .ok (.iconst 0, 1) := by decide +kernel
theorem dX12_filledOf_127 : decode cX12_filledOf 127 = .ok (.istore 7, 2) := by decide +kernel
theorem dX12_filledOf_129 : decode cX12_filledOf 129 = .ok (.iconst 0, 1) := by decide +kernel
theorem dX12_filledOf_130 : decode cX12_filledOf 130 = .ok (.istore 8, 2) := by decide +kernel
theorem dX12_filledOf_132 : decode cX12_filledOf 132 = .ok (.iconst 0, 1) := by decide +kernel
theorem dX12_filledOf_133 : decode cX12_filledOf 133 = .ok (.istore 9, 2) := by decide +kernel
theorem dX12_filledOf_135 : decode cX12_filledOf 135 = .ok (.iload 9, 2) := by decide +kernel
theorem dX12_filledOf_137 : decode cX12_filledOf 137 = .ok (.bipush 16, 2) := by decide +kernel
theorem dX12_filledOf_139 : decode cX12_filledOf 139 = .ok (.if_icmp .ge 54, 3) := by decide +kernel
theorem dX12_filledOf_142 : decode cX12_filledOf 142 = .ok (.aload_n 0, 1) := by decide +kernel
theorem dX12_filledOf_143 : decode cX12_filledOf 143 = .ok (.iload_n 1, 1) := by decide +kernel
theorem dX12_filledOf_144 : decode cX12_filledOf 144 = .ok (.iload_n 2, 1) := by decide +kernel
theorem dX12_filledOf_145 : decode cX12_filledOf 145 = .ok (.iload 9, 2) := by decide +kernel
theorem dX12_filledOf_147 : decode cX12_filledOf 147 = .ok (.iload 4, 2) := by decide +kernel
theorem dX12_filledOf_149 : decode cX12_filledOf 149 = .ok (.invokevirtual 253, 3) := by decide +kernel
theorem dX12_filledOf_152 : decode cX12_filledOf 152 = .ok (.istore 10, 2) := by decide +kernel
theorem dX12_filledOf_154 : decode cX12_filledOf 154 = .ok (.iload 7, 2) := by decide +kernel
theorem dX12_filledOf_156 : decode cX12_filledOf 156 = .ok (.iload 10, 2) := by decide +kernel
theorem dX12_filledOf_158 : decode cX12_filledOf 158 = .ok (.iconst (-1), 1) := by decide +kernel
theorem dX12_filledOf_159 : decode cX12_filledOf 159 = .ok (.if_icmp .ne 7, 3) := by decide +kernel
theorem dX12_filledOf_162 : decode cX12_filledOf 162 = .ok (.iconst 0, 1) := by decide +kernel
theorem dX12_filledOf_163 : decode cX12_filledOf 163 = .ok (.goto 5, 3) := by decide +kernel
theorem dX12_filledOf_166 : decode cX12_filledOf 166 = .ok (.iload 10, 2) := by decide +kernel
theorem dX12_filledOf_168 : decode cX12_filledOf 168 = .ok (.iadd, 1) := by decide +kernel
theorem dX12_filledOf_169 : decode cX12_filledOf 169 = .ok (.istore 7, 2) := by decide +kernel
theorem dX12_filledOf_171 : decode cX12_filledOf 171 = .ok (.iload 8, 2) := by decide +kernel
theorem dX12_filledOf_173 : decode cX12_filledOf 173 = .ok (.iload 10, 2) := by decide +kernel
theorem dX12_filledOf_175 : decode cX12_filledOf 175 = .ok (.iconst (-1), 1) := by decide +kernel
theorem dX12_filledOf_176 : decode cX12_filledOf 176 = .ok (.if_icmp .ne 7, 3) := by decide +kernel
theorem dX12_filledOf_179 : decode cX12_filledOf 179 = .ok (.iconst 0, 1) := by decide +kernel
theorem dX12_filledOf_180 : decode cX12_filledOf 180 = .ok (.goto 4, 3) := by decide +kernel
theorem dX12_filledOf_183 : decode cX12_filledOf 183 = .ok (.iconst 1, 1) := by decide +kernel
theorem dX12_filledOf_184 : decode cX12_filledOf 184 = .ok (.iadd, 1) := by decide +kernel
theorem dX12_filledOf_185 : decode cX12_filledOf 185 = .ok (.istore 8, 2) := by decide +kernel
theorem dX12_filledOf_187 : decode cX12_filledOf 187 = .ok (.iinc 9 1, 3) := by decide +kernel
theorem dX12_filledOf_190 : decode cX12_filledOf 190 = .ok (.goto (-55), 3) := by decide +kernel
theorem dX12_filledOf_193 : decode cX12_filledOf 193 = .ok (.iload 8, 2) := by decide +kernel
theorem dX12_filledOf_195 : decode cX12_filledOf 195 = .ok (.ifCond .ne 7, 3) := by decide +kernel
theorem dX12_filledOf_198 : decode cX12_filledOf 198 = .ok (.iconst 0, 1) := by decide +kernel
theorem dX12_filledOf_199 : decode cX12_filledOf 199 = .ok (.goto 8, 3) := by decide +kernel
theorem dX12_filledOf_202 : decode cX12_filledOf 202 = .ok (.iload 7, 2) := by decide +kernel
theorem dX12_filledOf_204 : decode cX12_filledOf 204 = .ok (.iload 8, 2) := by decide +kernel
theorem dX12_filledOf_206 : decode cX12_filledOf 206 = .ok (.idiv, 1) := by decide +kernel
theorem dX12_filledOf_207 : decode cX12_filledOf 207 = .ok (.ireturn, 1) := by decide +kernel
abbrev M_X12_filledOf : MI := (RX12, cX12_filledOf, 11, (some .int), ({ frames := 3, cells := 0, slots := 0, locals := 65 } : Room), 0, 0, false)
def f_X12_filledOf_b101 (h : AH) (N : Nat) (K26 : Nat → Int32 → Int32 → Int32 → Int32 → Int32 → Int32 → Option Int32) (x0 : Nat) (x1 : Int32) (x2 : Int32) (x3 : Int32) (x4 : Int32) (x7 : Int32) (s6 : Int32) : Option Int32 := K26 x0 x1 x2 x3 x4 s6 (x7 + 1)
def f_X12_filledOf_b94 (h : AH) (N : Nat) (K26 : Nat → Int32 → Int32 → Int32 → Int32 → Int32 → Int32 → Option Int32) (x0 : Nat) (x1 : Int32) (x2 : Int32) (x3 : Int32) (x4 : Int32) (x7 : Int32) : Option Int32 := f_X12_filledOf_b101 h N K26 x0 x1 x2 x3 x4 x7 x7
def f_X12_filledOf_b99 (h : AH) (N : Nat) (K26 : Nat → Int32 → Int32 → Int32 → Int32 → Int32 → Int32 → Option Int32) (x0 : Nat) (x1 : Int32) (x2 : Int32) (x3 : Int32) (x4 : Int32) (x6 : Int32) (x7 : Int32) : Option Int32 := f_X12_filledOf_b101 h N K26 x0 x1 x2 x3 x4 x7 x6
def f_X12_filledOf_b64 (h : AH) (N : Nat) (K26 : Nat → Int32 → Int32 → Int32 → Int32 → Int32 → Int32 → Option Int32) (x0 : Nat) (x1 : Int32) (x2 : Int32) (x3 : Int32) (x4 : Int32) (x6 : Int32) (x7 : Int32) (s7 : Int32) : Option Int32 := (if s7 = 0 then f_X12_filledOf_b99 h N K26 x0 x1 x2 x3 x4 x6 x7 else (if x6 = (-1) then f_X12_filledOf_b94 h N K26 x0 x1 x2 x3 x4 x7 else (f_X12_between h x0 x2 x7).bind fun v13 => (f_X12_between h x0 x2 x6).bind fun v14 => (if v14 ≤ v13 then f_X12_filledOf_b99 h N K26 x0 x1 x2 x3 x4 x6 x7 else f_X12_filledOf_b94 h N K26 x0 x1 x2 x3 x4 x7)))
def f_X12_filledOf_b63 (h : AH) (N : Nat) (K26 : Nat → Int32 → Int32 → Int32 → Int32 → Int32 → Int32 → Option Int32) (x0 : Nat) (x1 : Int32) (x2 : Int32) (x3 : Int32) (x4 : Int32) (x6 : Int32) (x7 : Int32) : Option Int32 := f_X12_filledOf_b64 h N K26 x0 x1 x2 x3 x4 x6 x7 0
def f_X12_filledOf_b184 (h : AH) (N : Nat) (K135 : Nat → Int32 → Int32 → Int32 → Int32 → Int32 → Int32 → Option Int32) (x0 : Nat) (x1 : Int32) (x2 : Int32) (x4 : Int32) (x7 : Int32) (x9 : Int32) (s6 : Int32) (s7 : Int32) : Option Int32 := K135 x0 x1 x2 x4 x7 (s7 + s6) (x9 + 1)
def f_X12_filledOf_b168 (h : AH) (N : Nat) (K135 : Nat → Int32 → Int32 → Int32 → Int32 → Int32 → Int32 → Option Int32) (x0 : Nat) (x1 : Int32) (x2 : Int32) (x4 : Int32) (x8 : Int32) (x9 : Int32) (x10 : Int32) (s7 : Int32) (s8 : Int32) : Option Int32 := (if x10 = (-1) then f_X12_filledOf_b184 h N K135 x0 x1 x2 x4 (s8 + s7) x9 0 x8 else f_X12_filledOf_b184 h N K135 x0 x1 x2 x4 (s8 + s7) x9 1 x8)
def f_X12_filledOf_b135_body (h : AH) (N : Nat) (K135 : Nat → Int32 → Int32 → Int32 → Int32 → Int32 → Int32 → Option Int32) (x0 : Nat) (x1 : Int32) (x2 : Int32) (x4 : Int32) (x7 : Int32) (x8 : Int32) (x9 : Int32) : Option Int32 := (if 16 ≤ x9 then (if x8 = 0 then some 0 else (if x8 = 0 then none else some (x7 / x8))) else (f_X12_rainOf h x0 x1 x2 x9 x4).bind fun v19 => (if v19 = (-1) then f_X12_filledOf_b168 h N K135 x0 x1 x2 x4 x8 x9 v19 0 x7 else f_X12_filledOf_b168 h N K135 x0 x1 x2 x4 x8 x9 v19 v19 x7))
def f_X12_filledOf_b135 (h : AH) (N : Nat) : Nat → Nat → Int32 → Int32 → Int32 → Int32 → Int32 → Int32 → Option Int32
  | 0, _, _, _, _, _, _, _ => none
  | n + 1, x0, x1, x2, x4, x7, x8, x9 => f_X12_filledOf_b135_body h N  (f_X12_filledOf_b135 h N  n) x0 x1 x2 x4 x7 x8 x9
def f_X12_filledOf_b26_body (h : AH) (N : Nat) (K26 : Nat → Int32 → Int32 → Int32 → Int32 → Int32 → Int32 → Option Int32) (x0 : Nat) (x1 : Int32) (x2 : Int32) (x3 : Int32) (x4 : Int32) (x6 : Int32) (x7 : Int32) : Option Int32 := (xgi h x0 13 0).bind fun v3 => (if v3 ≤ x7 then (if x6 = (-1) then f_X12_filledOf_b135 h N N x0 x1 x2 x4 0 0 0 else (f_X12_rainOf h x0 x1 x6 x3 x4).bind fun v6 => some v6) else (f_X12_areNear h x0 x2 x7).bind fun v7 => (if v7 = 0 then f_X12_filledOf_b63 h N K26 x0 x1 x2 x3 x4 x6 x7 else (f_X12_rainOf h x0 x1 x7 x3 x4).bind fun v9 => (if v9 = (-1) then f_X12_filledOf_b63 h N K26 x0 x1 x2 x3 x4 x6 x7 else f_X12_filledOf_b64 h N K26 x0 x1 x2 x3 x4 x6 x7 1)))
def f_X12_filledOf_b26 (h : AH) (N : Nat) : Nat → Nat → Int32 → Int32 → Int32 → Int32 → Int32 → Int32 → Option Int32
  | 0, _, _, _, _, _, _, _ => none
  | n + 1, x0, x1, x2, x3, x4, x6, x7 => f_X12_filledOf_b26_body h N  (f_X12_filledOf_b26 h N  n) x0 x1 x2 x3 x4 x6 x7
def f_X12_filledOf (h : AH) (N : Nat) (p0 : Nat) (p1 : Int32) (p2 : Int32) (p3 : Int32) (p4 : Int32) : Option Int32 := if kd h p0 = 13 + 1 then (f_X12_rainOf h p0 p1 p2 p3 p4).bind fun v1 => (if v1 = (-1) then f_X12_filledOf_b26 h N N p0 p1 p2 p3 p4 (-1) 0 else some v1) else none
theorem g_X12_filledOf {h : AH} {N : Nat} {p0 : Nat} {p1 : Int32} {p2 : Int32} {p3 : Int32} {p4 : Int32} {x : Int32} (e : f_X12_filledOf h N p0 p1 p2 p3 p4 = some x) : kd h p0 = 13 + 1 := by
  unfold f_X12_filledOf at e
  by_cases hk : kd h p0 = 13 + 1
  · exact hk
  · rw [if_neg hk] at e
    cases e
theorem km_X12_filledOf : KM yX12_filledOf M_X12_filledOf 4 := ⟨in_tb 1505 (by decide +kernel) rfl, in_tb 9 (by decide +kernel) rfl, by decide +kernel, rfl, rfl⟩
theorem hm_X12_filledOf : M_X12_filledOf.2.2.2.2.2.1 = 0 ∧ M_X12_filledOf.2.2.2.2.2.2.1 = 0 := ⟨rfl, rfl⟩
section
variable {l : Launch} {g : GG}
set_option maxRecDepth 100000 in
set_option maxHeartbeats 4000000 in
theorem t_X12_filledOf_b101 (h : AH) (N : Nat) (K26 : Nat → Int32 → Int32 → Int32 → Int32 → Int32 → Int32 → Option Int32) (hK26 : ∀ (z0 : Nat) (z1 : Int32) (z2 : Int32) (z3 : Int32) (z4 : Int32) (z5 : Int32) (z6 : Int32), AO l g M_X12_filledOf false h 26 [(0, .ref z0), (1, .int z1), (2, .int z2), (3, .int z3), (4, .int z4), (6, .int z5), (7, .int z6)] [] h 0 0 (rPi h) (K26 z0 z1 z2 z3 z4 z5 z6)) (x0 : Nat) (x1 : Int32) (x2 : Int32) (x3 : Int32) (x4 : Int32) (x7 : Int32) (s6 : Int32) : AO l g M_X12_filledOf false h 101 [(0, .ref x0), (1, .int x1), (2, .int x2), (3, .int x3), (4, .int x4), (7, .int x7)] [.int s6] h 0 0 (rPi h) (f_X12_filledOf_b101 h N K26 x0 x1 x2 x3 x4 x7 s6) := by
  unfold f_X12_filledOf_b101
  refine a_istore (lc2 := [(6, .int s6), (0, .ref x0), (1, .int x1), (2, .int x2), (3, .int x3), (4, .int x4), (7, .int x7)]) dX12_filledOf_101 (by decide) rfl ?_
  refine a_iinc (q := 6) (v := (x7 + 1)) (lc2 := [(7, .int (x7 + 1)), (6, .int s6), (0, .ref x0), (1, .int x1), (2, .int x2), (3, .int x3), (4, .int x4)]) dX12_filledOf_103 rfl rfl (by decide) rfl ?_
  refine a_goto 26 dX12_filledOf_106 (by decide) ?_
  refine a_pick (lc2 := [(0, .ref x0), (1, .int x1), (2, .int x2), (3, .int x3), (4, .int x4), (6, .int s6), (7, .int (x7 + 1))]) [2, 3, 4, 5, 6, 1, 0] rfl ?_
  exact hK26 x0 x1 x2 x3 x4 s6 (x7 + 1)
set_option maxRecDepth 100000 in
set_option maxHeartbeats 4000000 in
theorem t_X12_filledOf_b94 (h : AH) (N : Nat) (K26 : Nat → Int32 → Int32 → Int32 → Int32 → Int32 → Int32 → Option Int32) (hK26 : ∀ (z0 : Nat) (z1 : Int32) (z2 : Int32) (z3 : Int32) (z4 : Int32) (z5 : Int32) (z6 : Int32), AO l g M_X12_filledOf false h 26 [(0, .ref z0), (1, .int z1), (2, .int z2), (3, .int z3), (4, .int z4), (6, .int z5), (7, .int z6)] [] h 0 0 (rPi h) (K26 z0 z1 z2 z3 z4 z5 z6)) (x0 : Nat) (x1 : Int32) (x2 : Int32) (x3 : Int32) (x4 : Int32) (x7 : Int32) : AO l g M_X12_filledOf false h 94 [(0, .ref x0), (1, .int x1), (2, .int x2), (3, .int x3), (4, .int x4), (7, .int x7)] [] h 0 0 (rPi h) (f_X12_filledOf_b94 h N K26 x0 x1 x2 x3 x4 x7) := by
  unfold f_X12_filledOf_b94
  refine a_iload dX12_filledOf_94 5 rfl ?_
  refine a_goto 101 dX12_filledOf_96 (by decide) ?_
  exact t_X12_filledOf_b101 h N K26 hK26 x0 x1 x2 x3 x4 x7 x7
set_option maxRecDepth 100000 in
set_option maxHeartbeats 4000000 in
theorem t_X12_filledOf_b99 (h : AH) (N : Nat) (K26 : Nat → Int32 → Int32 → Int32 → Int32 → Int32 → Int32 → Option Int32) (hK26 : ∀ (z0 : Nat) (z1 : Int32) (z2 : Int32) (z3 : Int32) (z4 : Int32) (z5 : Int32) (z6 : Int32), AO l g M_X12_filledOf false h 26 [(0, .ref z0), (1, .int z1), (2, .int z2), (3, .int z3), (4, .int z4), (6, .int z5), (7, .int z6)] [] h 0 0 (rPi h) (K26 z0 z1 z2 z3 z4 z5 z6)) (x0 : Nat) (x1 : Int32) (x2 : Int32) (x3 : Int32) (x4 : Int32) (x6 : Int32) (x7 : Int32) : AO l g M_X12_filledOf false h 99 [(0, .ref x0), (1, .int x1), (2, .int x2), (3, .int x3), (4, .int x4), (6, .int x6), (7, .int x7)] [] h 0 0 (rPi h) (f_X12_filledOf_b99 h N K26 x0 x1 x2 x3 x4 x6 x7) := by
  unfold f_X12_filledOf_b99
  refine a_iload dX12_filledOf_99 5 rfl ?_
  refine a_pick (lc2 := [(0, .ref x0), (1, .int x1), (2, .int x2), (3, .int x3), (4, .int x4), (7, .int x7)]) [0, 1, 2, 3, 4, 6] rfl ?_
  exact t_X12_filledOf_b101 h N K26 hK26 x0 x1 x2 x3 x4 x7 x6
set_option maxRecDepth 100000 in
set_option maxHeartbeats 4000000 in
theorem t_X12_filledOf_b64 (h : AH) (N : Nat) (K26 : Nat → Int32 → Int32 → Int32 → Int32 → Int32 → Int32 → Option Int32) (hK26 : ∀ (z0 : Nat) (z1 : Int32) (z2 : Int32) (z3 : Int32) (z4 : Int32) (z5 : Int32) (z6 : Int32), AO l g M_X12_filledOf false h 26 [(0, .ref z0), (1, .int z1), (2, .int z2), (3, .int z3), (4, .int z4), (6, .int z5), (7, .int z6)] [] h 0 0 (rPi h) (K26 z0 z1 z2 z3 z4 z5 z6)) (x0 : Nat) (x1 : Int32) (x2 : Int32) (x3 : Int32) (x4 : Int32) (x6 : Int32) (x7 : Int32) (s7 : Int32) : AO l g M_X12_filledOf false h 64 [(0, .ref x0), (1, .int x1), (2, .int x2), (3, .int x3), (4, .int x4), (6, .int x6), (7, .int x7)] [.int s7] h 0 0 (rPi h) (f_X12_filledOf_b64 h N K26 x0 x1 x2 x3 x4 x6 x7 s7) := by
  unfold f_X12_filledOf_b64
  refine a_istore (lc2 := [(8, .int s7), (0, .ref x0), (1, .int x1), (2, .int x2), (3, .int x3), (4, .int x4), (6, .int x6), (7, .int x7)]) dX12_filledOf_64 (by decide) rfl ?_
  refine a_iload dX12_filledOf_66 0 rfl ?_
  refine a_if_eq 99 dX12_filledOf_68 (by decide) (fun c11 => ?_) (fun c11 => ?_)
  · refine a_pick (lc2 := [(0, .ref x0), (1, .int x1), (2, .int x2), (3, .int x3), (4, .int x4), (6, .int x6), (7, .int x7)]) [1, 2, 3, 4, 5, 6, 7] rfl ?_
    exact t_X12_filledOf_b99 h N K26 hK26 x0 x1 x2 x3 x4 x6 x7
  · refine a_iload dX12_filledOf_71 6 rfl ?_
    refine a_iconst (v := (-1)) dX12_filledOf_73 (by decide) ?_
    refine a_icmp_eq 94 dX12_filledOf_74 (by decide) (fun c12 => ?_) (fun c12 => ?_)
    · refine a_pick (lc2 := [(0, .ref x0), (1, .int x1), (2, .int x2), (3, .int x3), (4, .int x4), (7, .int x7)]) [1, 2, 3, 4, 5, 7] rfl ?_
      exact t_X12_filledOf_b94 h N K26 hK26 x0 x1 x2 x3 x4 x7
    · refine a_aload_n dX12_filledOf_77 rfl 1 rfl ?_
      refine a_iload_n dX12_filledOf_78 rfl 3 rfl ?_
      refine a_iload dX12_filledOf_79 7 rfl ?_
      refine a_cV_Pi (r := x0) (ci := 13) (as := [.int x2, .int x7]) (st := []) dX12_filledOf_81 (c_X12_between l g h x0 x2 x7) rfl km_X12_between (hm_X12_between) rfl (by decide) rfl (fun _ ee => g_X12_between ee) w_methodLink_RainCoverModel_261 w_instanceMethod_RainCoverModel_between__II_I w_selects_RainCoverModel_RainCoverModel_between__II_I_RainCoverModel_between__II_I ⟨⟨by decide, by decide⟩, ⟨by decide, by decide⟩⟩ (Nat.le_of_ble_eq_true rfl) (fun v13 => ?_)
      refine a_aload_n dX12_filledOf_84 rfl 1 rfl ?_
      refine a_iload_n dX12_filledOf_85 rfl 3 rfl ?_
      refine a_iload dX12_filledOf_86 6 rfl ?_
      refine a_cV_Pi (r := x0) (ci := 13) (as := [.int x2, .int x6]) (st := [.int v13]) dX12_filledOf_88 (c_X12_between l g h x0 x2 x6) rfl km_X12_between (hm_X12_between) rfl (by decide) rfl (fun _ ee => g_X12_between ee) w_methodLink_RainCoverModel_261 w_instanceMethod_RainCoverModel_between__II_I w_selects_RainCoverModel_RainCoverModel_between__II_I_RainCoverModel_between__II_I ⟨⟨by decide, by decide⟩, ⟨by decide, by decide⟩⟩ (Nat.le_of_ble_eq_true rfl) (fun v14 => ?_)
      refine a_icmp_ge 99 dX12_filledOf_91 (by decide) (fun c15 => ?_) (fun c15 => ?_)
      · refine a_pick (lc2 := [(0, .ref x0), (1, .int x1), (2, .int x2), (3, .int x3), (4, .int x4), (6, .int x6), (7, .int x7)]) [1, 2, 3, 4, 5, 6, 7] rfl ?_
        exact t_X12_filledOf_b99 h N K26 hK26 x0 x1 x2 x3 x4 x6 x7
      · refine a_pick (lc2 := [(0, .ref x0), (1, .int x1), (2, .int x2), (3, .int x3), (4, .int x4), (7, .int x7)]) [1, 2, 3, 4, 5, 7] rfl ?_
        exact t_X12_filledOf_b94 h N K26 hK26 x0 x1 x2 x3 x4 x7
set_option maxRecDepth 100000 in
set_option maxHeartbeats 4000000 in
theorem t_X12_filledOf_b63 (h : AH) (N : Nat) (K26 : Nat → Int32 → Int32 → Int32 → Int32 → Int32 → Int32 → Option Int32) (hK26 : ∀ (z0 : Nat) (z1 : Int32) (z2 : Int32) (z3 : Int32) (z4 : Int32) (z5 : Int32) (z6 : Int32), AO l g M_X12_filledOf false h 26 [(0, .ref z0), (1, .int z1), (2, .int z2), (3, .int z3), (4, .int z4), (6, .int z5), (7, .int z6)] [] h 0 0 (rPi h) (K26 z0 z1 z2 z3 z4 z5 z6)) (x0 : Nat) (x1 : Int32) (x2 : Int32) (x3 : Int32) (x4 : Int32) (x6 : Int32) (x7 : Int32) : AO l g M_X12_filledOf false h 63 [(0, .ref x0), (1, .int x1), (2, .int x2), (3, .int x3), (4, .int x4), (6, .int x6), (7, .int x7)] [] h 0 0 (rPi h) (f_X12_filledOf_b63 h N K26 x0 x1 x2 x3 x4 x6 x7) := by
  unfold f_X12_filledOf_b63
  refine a_iconst (v := 0) dX12_filledOf_63 (by decide) ?_
  exact t_X12_filledOf_b64 h N K26 hK26 x0 x1 x2 x3 x4 x6 x7 0
set_option maxRecDepth 100000 in
set_option maxHeartbeats 4000000 in
theorem t_X12_filledOf_b184 (h : AH) (N : Nat) (K135 : Nat → Int32 → Int32 → Int32 → Int32 → Int32 → Int32 → Option Int32) (hK135 : ∀ (z0 : Nat) (z1 : Int32) (z2 : Int32) (z3 : Int32) (z4 : Int32) (z5 : Int32) (z6 : Int32), AO l g M_X12_filledOf false h 135 [(0, .ref z0), (1, .int z1), (2, .int z2), (4, .int z3), (7, .int z4), (8, .int z5), (9, .int z6)] [] h 0 0 (rPi h) (K135 z0 z1 z2 z3 z4 z5 z6)) (x0 : Nat) (x1 : Int32) (x2 : Int32) (x4 : Int32) (x7 : Int32) (x9 : Int32) (s6 : Int32) (s7 : Int32) : AO l g M_X12_filledOf false h 184 [(0, .ref x0), (1, .int x1), (2, .int x2), (4, .int x4), (7, .int x7), (9, .int x9)] [.int s6, .int s7] h 0 0 (rPi h) (f_X12_filledOf_b184 h N K135 x0 x1 x2 x4 x7 x9 s6 s7) := by
  unfold f_X12_filledOf_b184
  refine a_iadd dX12_filledOf_184 ?_
  refine a_istore (lc2 := [(8, .int (s7 + s6)), (0, .ref x0), (1, .int x1), (2, .int x2), (4, .int x4), (7, .int x7), (9, .int x9)]) dX12_filledOf_185 (by decide) rfl ?_
  refine a_iinc (q := 6) (v := (x9 + 1)) (lc2 := [(9, .int (x9 + 1)), (8, .int (s7 + s6)), (0, .ref x0), (1, .int x1), (2, .int x2), (4, .int x4), (7, .int x7)]) dX12_filledOf_187 rfl rfl (by decide) rfl ?_
  refine a_goto 135 dX12_filledOf_190 (by decide) ?_
  refine a_pick (lc2 := [(0, .ref x0), (1, .int x1), (2, .int x2), (4, .int x4), (7, .int x7), (8, .int (s7 + s6)), (9, .int (x9 + 1))]) [2, 3, 4, 5, 6, 1, 0] rfl ?_
  exact hK135 x0 x1 x2 x4 x7 (s7 + s6) (x9 + 1)
set_option maxRecDepth 100000 in
set_option maxHeartbeats 4000000 in
theorem t_X12_filledOf_b168 (h : AH) (N : Nat) (K135 : Nat → Int32 → Int32 → Int32 → Int32 → Int32 → Int32 → Option Int32) (hK135 : ∀ (z0 : Nat) (z1 : Int32) (z2 : Int32) (z3 : Int32) (z4 : Int32) (z5 : Int32) (z6 : Int32), AO l g M_X12_filledOf false h 135 [(0, .ref z0), (1, .int z1), (2, .int z2), (4, .int z3), (7, .int z4), (8, .int z5), (9, .int z6)] [] h 0 0 (rPi h) (K135 z0 z1 z2 z3 z4 z5 z6)) (x0 : Nat) (x1 : Int32) (x2 : Int32) (x4 : Int32) (x8 : Int32) (x9 : Int32) (x10 : Int32) (s7 : Int32) (s8 : Int32) : AO l g M_X12_filledOf false h 168 [(0, .ref x0), (1, .int x1), (2, .int x2), (4, .int x4), (8, .int x8), (9, .int x9), (10, .int x10)] [.int s7, .int s8] h 0 0 (rPi h) (f_X12_filledOf_b168 h N K135 x0 x1 x2 x4 x8 x9 x10 s7 s8) := by
  unfold f_X12_filledOf_b168
  refine a_iadd dX12_filledOf_168 ?_
  refine a_istore (lc2 := [(7, .int (s8 + s7)), (0, .ref x0), (1, .int x1), (2, .int x2), (4, .int x4), (8, .int x8), (9, .int x9), (10, .int x10)]) dX12_filledOf_169 (by decide) rfl ?_
  refine a_iload dX12_filledOf_171 5 rfl ?_
  refine a_iload dX12_filledOf_173 7 rfl ?_
  refine a_iconst (v := (-1)) dX12_filledOf_175 (by decide) ?_
  refine a_icmp_ne 183 dX12_filledOf_176 (by decide) (fun c21 => ?_) (fun c21 => ?_)
  · refine a_iconst (v := 0) dX12_filledOf_179 (by decide) ?_
    refine a_goto 184 dX12_filledOf_180 (by decide) ?_
    refine a_pick (lc2 := [(0, .ref x0), (1, .int x1), (2, .int x2), (4, .int x4), (7, .int (s8 + s7)), (9, .int x9)]) [1, 2, 3, 4, 0, 6] rfl ?_
    exact t_X12_filledOf_b184 h N K135 hK135 x0 x1 x2 x4 (s8 + s7) x9 0 x8
  · refine a_iconst (v := 1) dX12_filledOf_183 (by decide) ?_
    refine a_pick (lc2 := [(0, .ref x0), (1, .int x1), (2, .int x2), (4, .int x4), (7, .int (s8 + s7)), (9, .int x9)]) [1, 2, 3, 4, 0, 6] rfl ?_
    exact t_X12_filledOf_b184 h N K135 hK135 x0 x1 x2 x4 (s8 + s7) x9 1 x8
set_option maxRecDepth 100000 in
set_option maxHeartbeats 4000000 in
theorem t_X12_filledOf_b135_body (h : AH) (N : Nat) (K135 : Nat → Int32 → Int32 → Int32 → Int32 → Int32 → Int32 → Option Int32) (hK135 : ∀ (z0 : Nat) (z1 : Int32) (z2 : Int32) (z3 : Int32) (z4 : Int32) (z5 : Int32) (z6 : Int32), AO l g M_X12_filledOf false h 135 [(0, .ref z0), (1, .int z1), (2, .int z2), (4, .int z3), (7, .int z4), (8, .int z5), (9, .int z6)] [] h 0 0 (rPi h) (K135 z0 z1 z2 z3 z4 z5 z6)) (x0 : Nat) (x1 : Int32) (x2 : Int32) (x4 : Int32) (x7 : Int32) (x8 : Int32) (x9 : Int32) : AO l g M_X12_filledOf false h 135 [(0, .ref x0), (1, .int x1), (2, .int x2), (4, .int x4), (7, .int x7), (8, .int x8), (9, .int x9)] [] h 0 0 (rPi h) (f_X12_filledOf_b135_body h N K135 x0 x1 x2 x4 x7 x8 x9) := by
  unfold f_X12_filledOf_b135_body
  refine a_iload dX12_filledOf_135 6 rfl ?_
  refine a_bipush (v := 16) dX12_filledOf_137 (by decide) ?_
  refine a_icmp_ge 193 dX12_filledOf_139 (by decide) (fun c16 => ?_) (fun c16 => ?_)
  · refine a_iload dX12_filledOf_193 5 rfl ?_
    refine a_if_ne 202 dX12_filledOf_195 (by decide) (fun c17 => ?_) (fun c17 => ?_)
    · refine a_iconst (v := 0) dX12_filledOf_198 (by decide) ?_
      refine a_goto 207 dX12_filledOf_199 (by decide) ?_
      exact a_iret dX12_filledOf_207 rfl rfl (by decide) (by decide)
    · refine a_iload dX12_filledOf_202 4 rfl ?_
      refine a_iload dX12_filledOf_204 5 rfl ?_
      refine a_idiv dX12_filledOf_206 (fun c18 => ?_)
      exact a_iret dX12_filledOf_207 rfl rfl (by decide) (by decide)
  · refine a_aload_n dX12_filledOf_142 rfl 0 rfl ?_
    refine a_iload_n dX12_filledOf_143 rfl 1 rfl ?_
    refine a_iload_n dX12_filledOf_144 rfl 2 rfl ?_
    refine a_iload dX12_filledOf_145 6 rfl ?_
    refine a_iload dX12_filledOf_147 3 rfl ?_
    refine a_cV_Pi (r := x0) (ci := 13) (as := [.int x1, .int x2, .int x9, .int x4]) (st := []) dX12_filledOf_149 (c_X12_rainOf l g h x0 x1 x2 x9 x4) rfl km_X12_rainOf (hm_X12_rainOf) rfl (by decide) rfl (fun _ ee => g_X12_rainOf ee) w_methodLink_RainCoverModel_253 w_instanceMethod_RainCoverModel_rainOf__IIII_I w_selects_RainCoverModel_RainCoverModel_rainOf__IIII_I_RainCoverModel_rainOf__IIII_I ⟨⟨by decide, by decide⟩, ⟨by decide, by decide⟩⟩ (Nat.le_of_ble_eq_true rfl) (fun v19 => ?_)
    refine a_istore (lc2 := [(10, .int v19), (0, .ref x0), (1, .int x1), (2, .int x2), (4, .int x4), (7, .int x7), (8, .int x8), (9, .int x9)]) dX12_filledOf_152 (by decide) rfl ?_
    refine a_iload dX12_filledOf_154 5 rfl ?_
    refine a_iload dX12_filledOf_156 0 rfl ?_
    refine a_iconst (v := (-1)) dX12_filledOf_158 (by decide) ?_
    refine a_icmp_ne 166 dX12_filledOf_159 (by decide) (fun c20 => ?_) (fun c20 => ?_)
    · refine a_iconst (v := 0) dX12_filledOf_162 (by decide) ?_
      refine a_goto 168 dX12_filledOf_163 (by decide) ?_
      refine a_pick (lc2 := [(0, .ref x0), (1, .int x1), (2, .int x2), (4, .int x4), (8, .int x8), (9, .int x9), (10, .int v19)]) [1, 2, 3, 4, 6, 7, 0] rfl ?_
      exact t_X12_filledOf_b168 h N K135 hK135 x0 x1 x2 x4 x8 x9 v19 0 x7
    · refine a_iload dX12_filledOf_166 0 rfl ?_
      refine a_pick (lc2 := [(0, .ref x0), (1, .int x1), (2, .int x2), (4, .int x4), (8, .int x8), (9, .int x9), (10, .int v19)]) [1, 2, 3, 4, 6, 7, 0] rfl ?_
      exact t_X12_filledOf_b168 h N K135 hK135 x0 x1 x2 x4 x8 x9 v19 v19 x7
set_option maxRecDepth 100000 in
set_option maxHeartbeats 4000000 in
theorem t_X12_filledOf_b135 (h : AH) (N : Nat) : ∀ (n : Nat) (x0 : Nat) (x1 : Int32) (x2 : Int32) (x4 : Int32) (x7 : Int32) (x8 : Int32) (x9 : Int32) , AO l g M_X12_filledOf false h 135 [(0, .ref x0), (1, .int x1), (2, .int x2), (4, .int x4), (7, .int x7), (8, .int x8), (9, .int x9)] [] h 0 0 (rPi h) (f_X12_filledOf_b135 h N  n x0 x1 x2 x4 x7 x8 x9) := by
  intro n
  induction n with
  | zero => intro x0 x1 x2 x4 x7 x8 x9; exact a_eq rfl a_none
  | succ n ih => intro x0 x1 x2 x4 x7 x8 x9; exact a_eq rfl (t_X12_filledOf_b135_body h N  (f_X12_filledOf_b135 h N  n) ih x0 x1 x2 x4 x7 x8 x9)
set_option maxRecDepth 100000 in
set_option maxHeartbeats 4000000 in
theorem t_X12_filledOf_b26_body (h : AH) (N : Nat) (K26 : Nat → Int32 → Int32 → Int32 → Int32 → Int32 → Int32 → Option Int32) (hK26 : ∀ (z0 : Nat) (z1 : Int32) (z2 : Int32) (z3 : Int32) (z4 : Int32) (z5 : Int32) (z6 : Int32), AO l g M_X12_filledOf false h 26 [(0, .ref z0), (1, .int z1), (2, .int z2), (3, .int z3), (4, .int z4), (6, .int z5), (7, .int z6)] [] h 0 0 (rPi h) (K26 z0 z1 z2 z3 z4 z5 z6)) (x0 : Nat) (x1 : Int32) (x2 : Int32) (x3 : Int32) (x4 : Int32) (x6 : Int32) (x7 : Int32) : AO l g M_X12_filledOf false h 26 [(0, .ref x0), (1, .int x1), (2, .int x2), (3, .int x3), (4, .int x4), (6, .int x6), (7, .int x7)] [] h 0 0 (rPi h) (f_X12_filledOf_b26_body h N K26 x0 x1 x2 x3 x4 x6 x7) := by
  unfold f_X12_filledOf_b26_body
  refine a_iload dX12_filledOf_26 6 rfl ?_
  refine a_aload_n dX12_filledOf_28 rfl 0 rfl ?_
  refine a_geti kc13 0 dX12_filledOf_29 (by decide) rfl w_fieldLink_RainCoverModel_208 (fun v3 => ?_)
  refine a_icmp_ge 109 dX12_filledOf_32 (by decide) (fun c4 => ?_) (fun c4 => ?_)
  · refine a_iload dX12_filledOf_109 5 rfl ?_
    refine a_iconst (v := (-1)) dX12_filledOf_111 (by decide) ?_
    refine a_icmp_eq 126 dX12_filledOf_112 (by decide) (fun c5 => ?_) (fun c5 => ?_)
    · refine a_iconst (v := 0) dX12_filledOf_126 (by decide) ?_
      refine a_istore (lc2 := [(7, .int 0), (0, .ref x0), (1, .int x1), (2, .int x2), (3, .int x3), (4, .int x4), (6, .int x6)]) dX12_filledOf_127 (by decide) rfl ?_
      refine a_iconst (v := 0) dX12_filledOf_129 (by decide) ?_
      refine a_istore (lc2 := [(8, .int 0), (7, .int 0), (0, .ref x0), (1, .int x1), (2, .int x2), (3, .int x3), (4, .int x4), (6, .int x6)]) dX12_filledOf_130 (by decide) rfl ?_
      refine a_iconst (v := 0) dX12_filledOf_132 (by decide) ?_
      refine a_istore (lc2 := [(9, .int 0), (8, .int 0), (7, .int 0), (0, .ref x0), (1, .int x1), (2, .int x2), (3, .int x3), (4, .int x4), (6, .int x6)]) dX12_filledOf_133 (by decide) rfl ?_
      refine a_pick (lc2 := [(0, .ref x0), (1, .int x1), (2, .int x2), (4, .int x4), (7, .int 0), (8, .int 0), (9, .int 0)]) [3, 4, 5, 7, 2, 1, 0] rfl ?_
      exact t_X12_filledOf_b135 h N N x0 x1 x2 x4 0 0 0
    · refine a_aload_n dX12_filledOf_115 rfl 0 rfl ?_
      refine a_iload_n dX12_filledOf_116 rfl 1 rfl ?_
      refine a_iload dX12_filledOf_117 5 rfl ?_
      refine a_iload_n dX12_filledOf_119 rfl 3 rfl ?_
      refine a_iload dX12_filledOf_120 4 rfl ?_
      refine a_cV_Pi (r := x0) (ci := 13) (as := [.int x1, .int x6, .int x3, .int x4]) (st := []) dX12_filledOf_122 (c_X12_rainOf l g h x0 x1 x6 x3 x4) rfl km_X12_rainOf (hm_X12_rainOf) rfl (by decide) rfl (fun _ ee => g_X12_rainOf ee) w_methodLink_RainCoverModel_253 w_instanceMethod_RainCoverModel_rainOf__IIII_I w_selects_RainCoverModel_RainCoverModel_rainOf__IIII_I_RainCoverModel_rainOf__IIII_I ⟨⟨by decide, by decide⟩, ⟨by decide, by decide⟩⟩ (Nat.le_of_ble_eq_true rfl) (fun v6 => ?_)
      exact a_iret dX12_filledOf_125 rfl rfl (by decide) (by decide)
  · refine a_aload_n dX12_filledOf_35 rfl 0 rfl ?_
    refine a_iload_n dX12_filledOf_36 rfl 2 rfl ?_
    refine a_iload dX12_filledOf_37 6 rfl ?_
    refine a_cV_Pi (r := x0) (ci := 13) (as := [.int x2, .int x7]) (st := []) dX12_filledOf_39 (c_X12_areNear l g h x0 x2 x7) rfl km_X12_areNear (hm_X12_areNear) rfl (by decide) rfl (fun _ ee => g_X12_areNear ee) w_methodLink_RainCoverModel_264 w_instanceMethod_RainCoverModel_areNear__II_Z w_selects_RainCoverModel_RainCoverModel_areNear__II_Z_RainCoverModel_areNear__II_Z ⟨⟨by decide, by decide⟩, ⟨by decide, by decide⟩⟩ (Nat.le_of_ble_eq_true rfl) (fun v7 => ?_)
    refine a_if_eq 63 dX12_filledOf_42 (by decide) (fun c8 => ?_) (fun c8 => ?_)
    · exact t_X12_filledOf_b63 h N K26 hK26 x0 x1 x2 x3 x4 x6 x7
    · refine a_aload_n dX12_filledOf_45 rfl 0 rfl ?_
      refine a_iload_n dX12_filledOf_46 rfl 1 rfl ?_
      refine a_iload dX12_filledOf_47 6 rfl ?_
      refine a_iload_n dX12_filledOf_49 rfl 3 rfl ?_
      refine a_iload dX12_filledOf_50 4 rfl ?_
      refine a_cV_Pi (r := x0) (ci := 13) (as := [.int x1, .int x7, .int x3, .int x4]) (st := []) dX12_filledOf_52 (c_X12_rainOf l g h x0 x1 x7 x3 x4) rfl km_X12_rainOf (hm_X12_rainOf) rfl (by decide) rfl (fun _ ee => g_X12_rainOf ee) w_methodLink_RainCoverModel_253 w_instanceMethod_RainCoverModel_rainOf__IIII_I w_selects_RainCoverModel_RainCoverModel_rainOf__IIII_I_RainCoverModel_rainOf__IIII_I ⟨⟨by decide, by decide⟩, ⟨by decide, by decide⟩⟩ (Nat.le_of_ble_eq_true rfl) (fun v9 => ?_)
      refine a_iconst (v := (-1)) dX12_filledOf_55 (by decide) ?_
      refine a_icmp_eq 63 dX12_filledOf_56 (by decide) (fun c10 => ?_) (fun c10 => ?_)
      · exact t_X12_filledOf_b63 h N K26 hK26 x0 x1 x2 x3 x4 x6 x7
      · refine a_iconst (v := 1) dX12_filledOf_59 (by decide) ?_
        refine a_goto 64 dX12_filledOf_60 (by decide) ?_
        exact t_X12_filledOf_b64 h N K26 hK26 x0 x1 x2 x3 x4 x6 x7 1
set_option maxRecDepth 100000 in
set_option maxHeartbeats 4000000 in
theorem t_X12_filledOf_b26 (h : AH) (N : Nat) : ∀ (n : Nat) (x0 : Nat) (x1 : Int32) (x2 : Int32) (x3 : Int32) (x4 : Int32) (x6 : Int32) (x7 : Int32) , AO l g M_X12_filledOf false h 26 [(0, .ref x0), (1, .int x1), (2, .int x2), (3, .int x3), (4, .int x4), (6, .int x6), (7, .int x7)] [] h 0 0 (rPi h) (f_X12_filledOf_b26 h N  n x0 x1 x2 x3 x4 x6 x7) := by
  intro n
  induction n with
  | zero => intro x0 x1 x2 x3 x4 x6 x7; exact a_eq rfl a_none
  | succ n ih => intro x0 x1 x2 x3 x4 x6 x7; exact a_eq rfl (t_X12_filledOf_b26_body h N  (f_X12_filledOf_b26 h N  n) ih x0 x1 x2 x3 x4 x6 x7)
end
set_option maxRecDepth 100000 in
set_option maxHeartbeats 4000000 in
theorem c_X12_filledOf (l : Launch) (g : GG) (h : AH) (N : Nat) (p0 : Nat) (p1 : Int32) (p2 : Int32) (p3 : Int32) (p4 : Int32) : CN l g yX12_filledOf M_X12_filledOf false [.ref p0, .int p1, .int p2, .int p3, .int p4] h ((rPi h)) (f_X12_filledOf h N p0 p1 p2 p3 p4) := by
  refine CN.of (by decide) rfl (fun hh => by first | rfl | cases hh) (Nat.le_of_ble_eq_true rfl) ?_
  unfold f_X12_filledOf
  refine a_gd (fun hkd => ?_)
  refine a_aload_n dX12_filledOf_0 rfl 0 rfl ?_
  refine a_iload_n dX12_filledOf_1 rfl 1 rfl ?_
  refine a_iload_n dX12_filledOf_2 rfl 2 rfl ?_
  refine a_iload_n dX12_filledOf_3 rfl 3 rfl ?_
  refine a_iload dX12_filledOf_4 4 rfl ?_
  refine a_cV_Pi (r := p0) (ci := 13) (as := [.int p1, .int p2, .int p3, .int p4]) (st := []) dX12_filledOf_6 (c_X12_rainOf l g h p0 p1 p2 p3 p4) rfl km_X12_rainOf (hm_X12_rainOf) rfl (by decide) rfl (fun _ ee => g_X12_rainOf ee) w_methodLink_RainCoverModel_253 w_instanceMethod_RainCoverModel_rainOf__IIII_I w_selects_RainCoverModel_RainCoverModel_rainOf__IIII_I_RainCoverModel_rainOf__IIII_I ⟨⟨by decide, by decide⟩, ⟨by decide, by decide⟩⟩ (Nat.le_of_ble_eq_true rfl) (fun v1 => ?_)
  refine a_istore (lc2 := [(5, .int v1), (0, .ref p0), (1, .int p1), (2, .int p2), (3, .int p3), (4, .int p4)]) dX12_filledOf_9 (by decide) rfl ?_
  refine a_iload dX12_filledOf_11 0 rfl ?_
  refine a_iconst (v := (-1)) dX12_filledOf_13 (by decide) ?_
  refine a_icmp_eq 20 dX12_filledOf_14 (by decide) (fun c2 => ?_) (fun c2 => ?_)
  · refine a_iconst (v := (-1)) dX12_filledOf_20 (by decide) ?_
    refine a_istore (lc2 := [(6, .int (-1)), (5, .int v1), (0, .ref p0), (1, .int p1), (2, .int p2), (3, .int p3), (4, .int p4)]) dX12_filledOf_21 (by decide) rfl ?_
    refine a_iconst (v := 0) dX12_filledOf_23 (by decide) ?_
    refine a_istore (lc2 := [(7, .int 0), (6, .int (-1)), (5, .int v1), (0, .ref p0), (1, .int p1), (2, .int p2), (3, .int p3), (4, .int p4)]) dX12_filledOf_24 (by decide) rfl ?_
    refine a_pick (lc2 := [(0, .ref p0), (1, .int p1), (2, .int p2), (3, .int p3), (4, .int p4), (6, .int (-1)), (7, .int 0)]) [3, 4, 5, 6, 7, 1, 0] rfl ?_
    exact t_X12_filledOf_b26 h N N p0 p1 p2 p3 p4 (-1) 0
  · refine a_iload dX12_filledOf_17 0 rfl ?_
    exact a_iret dX12_filledOf_19 rfl rfl (by decide) (by decide)
