theorem dX12_enroll_0 : decode cX12_enroll 0 = .ok (.aload_n 0, 1) := by decide +kernel
theorem dX12_enroll_1 : decode cX12_enroll 1 = .ok (.iload_n 1, 1) := by decide +kernel
theorem dX12_enroll_2 : decode cX12_enroll 2 = .ok (.invokevirtual 346, 3) := by decide +kernel
theorem dX12_enroll_5 : decode cX12_enroll 5 = .ok (.ifCond .eq 18, 3) := by decide +kernel
theorem dX12_enroll_8 : decode cX12_enroll 8 = .ok (.aload_n 0, 1) := by decide +kernel
theorem dX12_enroll_9 : decode cX12_enroll 9 = .ok (.iload_n 2, 1) := by decide +kernel
theorem dX12_enroll_10 : decode cX12_enroll 10 = .ok (.invokevirtual 328, 3) := by decide +kernel
theorem dX12_enroll_13 : decode cX12_enroll 13 = .ok (.ifCond .eq 10, 3) := by decide +kernel
theorem dX12_enroll_16 : decode cX12_enroll 16 = .ok (.iload_n 3, 1) := by decide +kernel
theorem dX12_enroll_17 : decode cX12_enroll 17 = .ok (.invokestatic 221, 3) := by decide +kernel
theorem dX12_enroll_20 : decode cX12_enroll 20 = .ok (.ifCond .ne 5, 3) := by decide +kernel
theorem dX12_enroll_23 : decode cX12_enroll 23 = .ok (.iconst (-1), 1) := by decide +kernel
theorem dX12_enroll_24 : decode cX12_enroll 24 = .ok (.ireturn, 1) := by decide +kernel
theorem dX12_enroll_25 : decode cX12_enroll 25 = .ok (.iload_n 3, 1) := by decide +kernel
theorem dX12_enroll_26 : decode cX12_enroll 26 = .ok (.istore 4, 2) := by decide +kernel
theorem dX12_enroll_28 : decode cX12_enroll 28 = .ok (.iload 4, 2) := by decide +kernel
theorem dX12_enroll_30 : decode cX12_enroll 30 = .ok (.bipush 16, 2) := by decide +kernel
theorem dX12_enroll_32 : decode cX12_enroll 32 = .ok (.if_icmp .ge 23, 3) := by decide +kernel
theorem dX12_enroll_35 : decode cX12_enroll 35 = .ok (.aload_n 0, 1) := by decide +kernel
theorem dX12_enroll_36 : decode cX12_enroll 36 = .ok (.iload_n 1, 1) := by decide +kernel
theorem dX12_enroll_37 : decode cX12_enroll 37 = .ok (.iload 4, 2) := by decide +kernel
theorem dX12_enroll_39 : decode cX12_enroll 39 = .ok (.invokevirtual 343, 3) := by decide +kernel
theorem dX12_enroll_42 : decode cX12_enroll 42 = .ok (.iconst (-1), 1) := by decide +kernel
theorem dX12_enroll_43 : decode cX12_enroll 43 = .ok (.if_icmp .eq 6, 3) := by decide +kernel
theorem dX12_enroll_46 : decode cX12_enroll 46 = .ok (.bipush (-3), 2) := by decide +kernel
theorem dX12_enroll_48 : decode cX12_enroll 48 = .ok (.ireturn, 1) := by decide +kernel
theorem dX12_enroll_49 : decode cX12_enroll 49 = .ok (.iinc 4 1, 3) := by decide +kernel
theorem dX12_enroll_52 : decode cX12_enroll 52 = .ok (.goto (-24), 3) := by decide +kernel
theorem dX12_enroll_55 : decode cX12_enroll 55 = .ok (.aload_n 0, 1) := by decide +kernel
theorem dX12_enroll_56 : decode cX12_enroll 56 = .ok (.getfield 340, 3) := by decide +kernel
theorem dX12_enroll_59 : decode cX12_enroll 59 = .ok (.bipush 60, 2) := by decide +kernel
theorem dX12_enroll_61 : decode cX12_enroll 61 = .ok (.if_icmp .ne 6, 3) := by decide +kernel
theorem dX12_enroll_64 : decode cX12_enroll 64 = .ok (.bipush (-4), 2) := by decide +kernel
theorem dX12_enroll_66 : decode cX12_enroll 66 = .ok (.ireturn, 1) := by decide +kernel
theorem dX12_enroll_67 : decode cX12_enroll 67 = .ok (.aload_n 0, 1) := by decide +kernel
theorem dX12_enroll_68 : decode cX12_enroll 68 = .ok (.getfield 109, 3) := by decide +kernel
theorem dX12_enroll_71 : decode cX12_enroll 71 = .ok (.aload_n 0, 1) := by decide +kernel
theorem dX12_enroll_72 : decode cX12_enroll 72 = .ok (.getfield 340, 3) := by decide +kernel
theorem dX12_enroll_75 : decode cX12_enroll 75 = .ok (.iload_n 1, 1) := by decide +kernel
theorem dX12_enroll_76 : decode cX12_enroll 76 = .ok (.iastore, 1) := by decide +kernel
theorem dX12_enroll_77 : decode cX12_enroll 77 = .ok (.aload_n 0, 1) := by decide +kernel
theorem dX12_enroll_78 : decode cX12_enroll 78 = .ok (.getfield 112, 3) := by decide +kernel
theorem dX12_enroll_81 : decode cX12_enroll 81 = .ok (.aload_n 0, 1) := by decide +kernel
theorem dX12_enroll_82 : decode cX12_enroll 82 = .ok (.getfield 340, 3) := by decide +kernel
theorem dX12_enroll_85 : decode cX12_enroll 85 = .ok (.iload_n 2, 1) := by decide +kernel
theorem dX12_enroll_86 : decode cX12_enroll 86 = .ok (.iastore, 1) := by decide +kernel
theorem dX12_enroll_87 : decode cX12_enroll 87 = .ok (.aload_n 0, 1) := by decide +kernel
theorem dX12_enroll_88 : decode cX12_enroll 88 = .ok (.getfield 115, 3) := by decide +kernel
theorem dX12_enroll_91 : decode cX12_enroll 91 = .ok (.aload_n 0, 1) := by decide +kernel
theorem dX12_enroll_92 : decode cX12_enroll 92 = .ok (.getfield 340, 3) := by decide +kernel
theorem dX12_enroll_95 : decode cX12_enroll 95 = .ok (.iload_n 3, 1) := by decide +kernel
theorem dX12_enroll_96 : decode cX12_enroll 96 = .ok (.iastore, 1) := by decide +kernel
theorem dX12_enroll_97 : decode cX12_enroll 97 = .ok (.aload_n 0, 1) := by decide +kernel
theorem dX12_enroll_98 : decode cX12_enroll 98 = .ok (.getfield 118, 3) := by decide +kernel
theorem dX12_enroll_101 : decode cX12_enroll 101 = .ok (.aload_n 0, 1) := by decide +kernel
theorem dX12_enroll_102 : decode cX12_enroll 102 = .ok (.getfield 340, 3) := by decide +kernel
theorem dX12_enroll_105 : decode cX12_enroll 105 = .ok (.bipush 16, 2) := by decide +kernel
theorem dX12_enroll_107 : decode cX12_enroll 107 = .ok (.iastore, 1) := by decide +kernel
theorem dX12_enroll_108 : decode cX12_enroll 108 = .ok (.aload_n 0, 1) := by decide +kernel
theorem dX12_enroll_109 : decode cX12_enroll 109 = .ok (.dup, 1) := by decide +kernel
theorem dX12_enroll_110 : decode cX12_enroll 110 = .ok (.getfield 340, 3) := by decide +kernel
theorem dX12_enroll_113 : decode cX12_enroll 113 = .ok (.iconst 1, 1) := by decide +kernel
theorem dX12_enroll_114 : decode cX12_enroll 114 = .ok (.iadd, 1) := by decide +kernel
theorem dX12_enroll_115 : decode cX12_enroll 115 = .ok (.putfield 340, 3) := by decide +kernel
theorem dX12_enroll_118 : decode cX12_enroll 118 = .ok (.iconst 1, 1) := by decide +kernel
theorem dX12_enroll_119 : decode cX12_enroll 119 = .ok (.ireturn, 1) := by decide +kernel
abbrev M_X12_enroll : MI := (RX12, cX12_enroll, 5, (some .int), ({ frames := 2, cells := 0, slots := 0, locals := 43 } : Room), 0, 0, false)
def f_X12_enroll_b28_body (N : Nat) (K28 : AH → Nat → Int32 → Int32 → Int32 → Int32 → Option (Int32 × AH)) (h : AH) (x0 : Nat) (x1 : Int32) (x2 : Int32) (x3 : Int32) (x4 : Int32) : Option (Int32 × AH) := (if 16 ≤ x4 then (xgi h x0 13 36).bind fun v8 => (if v8 = 60 then some ((-4), h) else (xgr h x0 13 37).bind fun v10 => (xgi h x0 13 36).bind fun v11 => (xis h v10 v11 x1).bind fun h12 => (xgr h12 x0 13 38).bind fun v13 => (xgi h12 x0 13 36).bind fun v14 => (xis h12 v13 v14 x2).bind fun h15 => (xgr h15 x0 13 39).bind fun v16 => (xgi h15 x0 13 36).bind fun v17 => (xis h15 v16 v17 x3).bind fun h18 => (xgr h18 x0 13 40).bind fun v19 => (xgi h18 x0 13 36).bind fun v20 => (xis h18 v19 v20 16).bind fun h21 => (xgi h21 x0 13 36).bind fun v22 => (xpi h21 x0 13 36 (v22 + 1)).bind fun h23 => some (1, h23)) else (f_X12_coverOf h N x0 x1 x4).bind fun v24 => (if v24 = (-1) then K28 h x0 x1 x2 x3 (x4 + 1) else some ((-3), h)))
def f_X12_enroll_b28 (N : Nat) : Nat → AH → Nat → Int32 → Int32 → Int32 → Int32 → Option (Int32 × AH)
  | 0, _, _, _, _, _, _ => none
  | n + 1, h, x0, x1, x2, x3, x4 => f_X12_enroll_b28_body N  (f_X12_enroll_b28 N  n) h x0 x1 x2 x3 x4
def f_X12_enroll (h0 : AH) (N : Nat) (p0 : Nat) (p1 : Int32) (p2 : Int32) (p3 : Int32) : Option (Int32 × AH) := if kd h0 p0 = 13 + 1 then (f_X12_isFarm h0 p0 p1).bind fun v1 => (if v1 = 0 then some ((-1), h0) else (f_X12_isTerm h0 p0 p2).bind fun v3 => (if v3 = 0 then some ((-1), h0) else (f_X12_isSeason h0 p3).bind fun v5 => (if v5 = 0 then some ((-1), h0) else f_X12_enroll_b28 N N h0 p0 p1 p2 p3 p3))) else none
theorem g_X12_enroll {h0 : AH} {N : Nat} {p0 : Nat} {p1 : Int32} {p2 : Int32} {p3 : Int32} {x : (Int32 × AH)} (e : f_X12_enroll h0 N p0 p1 p2 p3 = some x) : kd h0 p0 = 13 + 1 := by
  unfold f_X12_enroll at e
  by_cases hk : kd h0 p0 = 13 + 1
  · exact hk
  · rw [if_neg hk] at e
    cases e
theorem km_X12_enroll : KM yX12_enroll M_X12_enroll 3 := ⟨in_tb 1612 (by decide +kernel) rfl, in_tb 9 (by decide +kernel) rfl, by decide +kernel, rfl, rfl⟩
theorem hm_X12_enroll : M_X12_enroll.2.2.2.2.2.1 = 0 ∧ M_X12_enroll.2.2.2.2.2.2.1 = 0 := ⟨rfl, rfl⟩
section
variable {l : Launch} {g : GG}
set_option maxRecDepth 100000 in
set_option maxHeartbeats 4000000 in
theorem t_X12_enroll_b28_body (h0 : AH) (N : Nat) (K28 : AH → Nat → Int32 → Int32 → Int32 → Int32 → Option (Int32 × AH)) (hK28 : ∀ (z : AH) (z0 : Nat) (z1 : Int32) (z2 : Int32) (z3 : Int32) (z4 : Int32), AO l g M_X12_enroll false h0 28 [(0, .ref z0), (1, .int z1), (2, .int z2), (3, .int z3), (4, .int z4)] [] z 0 0 rSi (K28 z z0 z1 z2 z3 z4)) (h : AH) (x0 : Nat) (x1 : Int32) (x2 : Int32) (x3 : Int32) (x4 : Int32) : AO l g M_X12_enroll false h0 28 [(0, .ref x0), (1, .int x1), (2, .int x2), (3, .int x3), (4, .int x4)] [] h 0 0 rSi (f_X12_enroll_b28_body N K28 h x0 x1 x2 x3 x4) := by
  unfold f_X12_enroll_b28_body
  refine a_iload dX12_enroll_28 4 rfl ?_
  refine a_bipush (v := 16) dX12_enroll_30 (by decide) ?_
  refine a_icmp_ge 55 dX12_enroll_32 (by decide) (fun c7 => ?_) (fun c7 => ?_)
  · refine a_aload_n dX12_enroll_55 rfl 0 rfl ?_
    refine a_geti kc13 36 dX12_enroll_56 (by decide) rfl w_fieldLink_RainCoverModel_340 (fun v8 => ?_)
    refine a_bipush (v := 60) dX12_enroll_59 (by decide) ?_
    refine a_icmp_ne 67 dX12_enroll_61 (by decide) (fun c9 => ?_) (fun c9 => ?_)
    · refine a_bipush (v := (-4)) dX12_enroll_64 (by decide) ?_
      exact a_iret dX12_enroll_66 rfl rfl (by decide) (by decide)
    · refine a_aload_n dX12_enroll_67 rfl 0 rfl ?_
      refine a_getr kc13 37 dX12_enroll_68 (by decide) rfl w_fieldLink_RainCoverModel_109 (fun v10 => ?_)
      refine a_aload_n dX12_enroll_71 rfl 0 rfl ?_
      refine a_geti kc13 36 dX12_enroll_72 (by decide) rfl w_fieldLink_RainCoverModel_340 (fun v11 => ?_)
      refine a_iload_n dX12_enroll_75 rfl 1 rfl ?_
      refine a_iast dX12_enroll_76 (fun h12 => ?_)
      refine a_aload_n dX12_enroll_77 rfl 0 rfl ?_
      refine a_getr kc13 38 dX12_enroll_78 (by decide) rfl w_fieldLink_RainCoverModel_112 (fun v13 => ?_)
      refine a_aload_n dX12_enroll_81 rfl 0 rfl ?_
      refine a_geti kc13 36 dX12_enroll_82 (by decide) rfl w_fieldLink_RainCoverModel_340 (fun v14 => ?_)
      refine a_iload_n dX12_enroll_85 rfl 2 rfl ?_
      refine a_iast dX12_enroll_86 (fun h15 => ?_)
      refine a_aload_n dX12_enroll_87 rfl 0 rfl ?_
      refine a_getr kc13 39 dX12_enroll_88 (by decide) rfl w_fieldLink_RainCoverModel_115 (fun v16 => ?_)
      refine a_aload_n dX12_enroll_91 rfl 0 rfl ?_
      refine a_geti kc13 36 dX12_enroll_92 (by decide) rfl w_fieldLink_RainCoverModel_340 (fun v17 => ?_)
      refine a_iload_n dX12_enroll_95 rfl 3 rfl ?_
      refine a_iast dX12_enroll_96 (fun h18 => ?_)
      refine a_aload_n dX12_enroll_97 rfl 0 rfl ?_
      refine a_getr kc13 40 dX12_enroll_98 (by decide) rfl w_fieldLink_RainCoverModel_118 (fun v19 => ?_)
      refine a_aload_n dX12_enroll_101 rfl 0 rfl ?_
      refine a_geti kc13 36 dX12_enroll_102 (by decide) rfl w_fieldLink_RainCoverModel_340 (fun v20 => ?_)
      refine a_bipush (v := 16) dX12_enroll_105 (by decide) ?_
      refine a_iast dX12_enroll_107 (fun h21 => ?_)
      refine a_aload_n dX12_enroll_108 rfl 0 rfl ?_
      refine a_dup dX12_enroll_109 rfl ?_
      refine a_geti kc13 36 dX12_enroll_110 (by decide) rfl w_fieldLink_RainCoverModel_340 (fun v22 => ?_)
      refine a_iconst (v := 1) dX12_enroll_113 (by decide) ?_
      refine a_iadd dX12_enroll_114 ?_
      refine a_puti kc13 36 dX12_enroll_115 (by decide) rfl w_fieldLink_RainCoverModel_340 rfl rfl (fun h23 => ?_)
      refine a_iconst (v := 1) dX12_enroll_118 (by decide) ?_
      exact a_iret dX12_enroll_119 rfl rfl (by decide) (by decide)
  · refine a_aload_n dX12_enroll_35 rfl 0 rfl ?_
    refine a_iload_n dX12_enroll_36 rfl 1 rfl ?_
    refine a_iload dX12_enroll_37 4 rfl ?_
    refine a_cV_Pi (r := x0) (ci := 13) (as := [.int x1, .int x4]) (st := []) dX12_enroll_39 (c_X12_coverOf l g h N x0 x1 x4) rfl km_X12_coverOf (hm_X12_coverOf) rfl (by decide) rfl (fun _ ee => g_X12_coverOf ee) w_methodLink_RainCoverModel_343 w_instanceMethod_RainCoverModel_coverOf__II_I w_selects_RainCoverModel_RainCoverModel_coverOf__II_I_RainCoverModel_coverOf__II_I ⟨⟨by decide, by decide⟩, ⟨by decide, by decide⟩⟩ (Nat.le_of_ble_eq_true rfl) (fun v24 => ?_)
    refine a_iconst (v := (-1)) dX12_enroll_42 (by decide) ?_
    refine a_icmp_eq 49 dX12_enroll_43 (by decide) (fun c25 => ?_) (fun c25 => ?_)
    · refine a_iinc (q := 4) (v := (x4 + 1)) (lc2 := [(4, .int (x4 + 1)), (0, .ref x0), (1, .int x1), (2, .int x2), (3, .int x3)]) dX12_enroll_49 rfl rfl (by decide) rfl ?_
      refine a_goto 28 dX12_enroll_52 (by decide) ?_
      refine a_pick (lc2 := [(0, .ref x0), (1, .int x1), (2, .int x2), (3, .int x3), (4, .int (x4 + 1))]) [1, 2, 3, 4, 0] rfl ?_
      exact hK28 h x0 x1 x2 x3 (x4 + 1)
    · refine a_bipush (v := (-3)) dX12_enroll_46 (by decide) ?_
      exact a_iret dX12_enroll_48 rfl rfl (by decide) (by decide)
set_option maxRecDepth 100000 in
set_option maxHeartbeats 4000000 in
theorem t_X12_enroll_b28 (h0 : AH) (N : Nat) : ∀ (n : Nat) (h : AH) (x0 : Nat) (x1 : Int32) (x2 : Int32) (x3 : Int32) (x4 : Int32) , AO l g M_X12_enroll false h0 28 [(0, .ref x0), (1, .int x1), (2, .int x2), (3, .int x3), (4, .int x4)] [] h 0 0 rSi (f_X12_enroll_b28 N  n h x0 x1 x2 x3 x4) := by
  intro n
  induction n with
  | zero => intro h x0 x1 x2 x3 x4; exact a_eq rfl a_none
  | succ n ih => intro h x0 x1 x2 x3 x4; exact a_eq rfl (t_X12_enroll_b28_body h0 N  (f_X12_enroll_b28 N  n) ih h x0 x1 x2 x3 x4)
end
set_option maxRecDepth 100000 in
set_option maxHeartbeats 4000000 in
theorem c_X12_enroll (l : Launch) (g : GG) (h0 : AH) (N : Nat) (p0 : Nat) (p1 : Int32) (p2 : Int32) (p3 : Int32) : CN l g yX12_enroll M_X12_enroll false [.ref p0, .int p1, .int p2, .int p3] h0 rSi (f_X12_enroll h0 N p0 p1 p2 p3) := by
  refine CN.of (by decide) rfl (fun hh => by first | rfl | cases hh) (Nat.le_of_ble_eq_true rfl) ?_
  unfold f_X12_enroll
  refine a_gd (fun hkd => ?_)
  refine a_aload_n dX12_enroll_0 rfl 0 rfl ?_
  refine a_iload_n dX12_enroll_1 rfl 1 rfl ?_
  refine a_cV_Pi (r := p0) (ci := 13) (as := [.int p1]) (st := []) dX12_enroll_2 (c_X12_isFarm l g h0 p0 p1) rfl km_X12_isFarm (hm_X12_isFarm) rfl (by decide) rfl (fun _ ee => g_X12_isFarm ee) w_methodLink_RainCoverModel_346 w_instanceMethod_RainCoverModel_isFarm__I_Z w_selects_RainCoverModel_RainCoverModel_isFarm__I_Z_RainCoverModel_isFarm__I_Z ⟨⟨by decide, by decide⟩, ⟨by decide, by decide⟩⟩ (Nat.le_of_ble_eq_true rfl) (fun v1 => ?_)
  refine a_if_eq 23 dX12_enroll_5 (by decide) (fun c2 => ?_) (fun c2 => ?_)
  · refine a_iconst (v := (-1)) dX12_enroll_23 (by decide) ?_
    exact a_iret dX12_enroll_24 rfl rfl (by decide) (by decide)
  · refine a_aload_n dX12_enroll_8 rfl 0 rfl ?_
    refine a_iload_n dX12_enroll_9 rfl 2 rfl ?_
    refine a_cV_Pi (r := p0) (ci := 13) (as := [.int p2]) (st := []) dX12_enroll_10 (c_X12_isTerm l g h0 p0 p2) rfl km_X12_isTerm (hm_X12_isTerm) rfl (by decide) rfl (fun _ ee => g_X12_isTerm ee) w_methodLink_RainCoverModel_328 w_instanceMethod_RainCoverModel_isTerm__I_Z w_selects_RainCoverModel_RainCoverModel_isTerm__I_Z_RainCoverModel_isTerm__I_Z ⟨⟨by decide, by decide⟩, ⟨by decide, by decide⟩⟩ (Nat.le_of_ble_eq_true rfl) (fun v3 => ?_)
    refine a_if_eq 23 dX12_enroll_13 (by decide) (fun c4 => ?_) (fun c4 => ?_)
    · refine a_iconst (v := (-1)) dX12_enroll_23 (by decide) ?_
      exact a_iret dX12_enroll_24 rfl rfl (by decide) (by decide)
    · refine a_iload_n dX12_enroll_16 rfl 3 rfl ?_
      refine a_cS_Pi (as := [.int p3]) (st := []) dX12_enroll_17 (c_X12_isSeason l g h0 p3) rfl km_X12_isSeason (hm_X12_isSeason) w_methodLink_RainCoverModel_221 w_static_RainCoverModel_isSeason__I_Z ⟨⟨by decide, by decide⟩, ⟨by decide, by decide⟩⟩ (Nat.le_of_ble_eq_true rfl) (fun v5 => ?_)
      refine a_if_ne 25 dX12_enroll_20 (by decide) (fun c6 => ?_) (fun c6 => ?_)
      · refine a_iconst (v := (-1)) dX12_enroll_23 (by decide) ?_
        exact a_iret dX12_enroll_24 rfl rfl (by decide) (by decide)
      · refine a_iload_n dX12_enroll_25 rfl 3 rfl ?_
        refine a_istore (lc2 := [(4, .int p3), (0, .ref p0), (1, .int p1), (2, .int p2), (3, .int p3)]) dX12_enroll_26 (by decide) rfl ?_
        refine a_pick (lc2 := [(0, .ref p0), (1, .int p1), (2, .int p2), (3, .int p3), (4, .int p3)]) [1, 2, 3, 4, 0] rfl ?_
        exact t_X12_enroll_b28 h0 N N h0 p0 p1 p2 p3 p3
theorem dX12_lapse_0 : decode cX12_lapse 0 = .ok (.aload_n 0, 1) := by decide +kernel
theorem dX12_lapse_1 : decode cX12_lapse 1 = .ok (.iload_n 1, 1) := by decide +kernel
theorem dX12_lapse_2 : decode cX12_lapse 2 = .ok (.invokevirtual 346, 3) := by decide +kernel
theorem dX12_lapse_5 : decode cX12_lapse 5 = .ok (.ifCond .eq 10, 3) := by decide +kernel
theorem dX12_lapse_8 : decode cX12_lapse 8 = .ok (.iload_n 2, 1) := by decide +kernel
theorem dX12_lapse_9 : decode cX12_lapse 9 = .ok (.invokestatic 221, 3) := by decide +kernel
theorem dX12_lapse_12 : decode cX12_lapse 12 = .ok (.ifCond .ne 5, 3) := by decide +kernel
theorem dX12_lapse_15 : decode cX12_lapse 15 = .ok (.iconst (-1), 1) := by decide +kernel
theorem dX12_lapse_16 : decode cX12_lapse 16 = .ok (.ireturn, 1) := by decide +kernel
theorem dX12_lapse_17 : decode cX12_lapse 17 = .ok (.aload_n 0, 1) := by decide +kernel
theorem dX12_lapse_18 : decode cX12_lapse 18 = .ok (.iload_n 1, 1) := by decide +kernel
theorem dX12_lapse_19 : decode cX12_lapse 19 = .ok (.iload_n 2, 1) := by decide +kernel
theorem dX12_lapse_20 : decode cX12_lapse 20 = .ok (.invokevirtual 343, 3) := by decide +kernel
theorem dX12_lapse_23 : decode cX12_lapse 23 = .ok (.istore_n 3, 1) := by decide +kernel
theorem dX12_lapse_24 : decode cX12_lapse 24 = .ok (.iload_n 3, 1) := by decide +kernel
theorem dX12_lapse_25 : decode cX12_lapse 25 = .ok (.iconst (-1), 1) := by decide +kernel
theorem dX12_lapse_26 : decode cX12_lapse 26 = .ok (.if_icmp .ne 6, 3) := by decide +kernel
theorem dX12_lapse_29 : decode cX12_lapse 29 = .ok (.bipush (-3), 2) := by decide +kernel
theorem dX12_lapse_31 : decode cX12_lapse 31 = .ok (.ireturn, 1) := by decide +kernel
theorem dX12_lapse_32 : decode cX12_lapse 32 = .ok (.aload_n 0, 1) := by decide +kernel
theorem dX12_lapse_33 : decode cX12_lapse 33 = .ok (.getfield 118, 3) := by decide +kernel
theorem dX12_lapse_36 : decode cX12_lapse 36 = .ok (.iload_n 3, 1) := by decide +kernel
theorem dX12_lapse_37 : decode cX12_lapse 37 = .ok (.iaload, 1) := by decide +kernel
theorem dX12_lapse_38 : decode cX12_lapse 38 = .ok (.iload_n 2, 1) := by decide +kernel
theorem dX12_lapse_39 : decode cX12_lapse 39 = .ok (.isub, 1) := by decide +kernel
theorem dX12_lapse_40 : decode cX12_lapse 40 = .ok (.istore 4, 2) := by decide +kernel
theorem dX12_lapse_42 : decode cX12_lapse 42 = .ok (.aload_n 0, 1) := by decide +kernel
theorem dX12_lapse_43 : decode cX12_lapse 43 = .ok (.getfield 118, 3) := by decide +kernel
theorem dX12_lapse_46 : decode cX12_lapse 46 = .ok (.iload_n 3, 1) := by decide +kernel
theorem dX12_lapse_47 : decode cX12_lapse 47 = .ok (.iload_n 2, 1) := by decide +kernel
theorem dX12_lapse_48 : decode cX12_lapse 48 = .ok (.iastore, 1) := by decide +kernel
theorem dX12_lapse_49 : decode cX12_lapse 49 = .ok (.iload 4, 2) := by decide +kernel
theorem dX12_lapse_51 : decode cX12_lapse 51 = .ok (.ireturn, 1) := by decide +kernel
abbrev M_X12_lapse : MI := (RX12, cX12_lapse, 5, (some .int), ({ frames := 2, cells := 0, slots := 0, locals := 43 } : Room), 0, 0, false)
def f_X12_lapse (h0 : AH) (N : Nat) (p0 : Nat) (p1 : Int32) (p2 : Int32) : Option (Int32 × AH) := if kd h0 p0 = 13 + 1 then (f_X12_isFarm h0 p0 p1).bind fun v1 => (if v1 = 0 then some ((-1), h0) else (f_X12_isSeason h0 p2).bind fun v3 => (if v3 = 0 then some ((-1), h0) else (f_X12_coverOf h0 N p0 p1 p2).bind fun v5 => (if v5 = (-1) then some ((-3), h0) else (xgr h0 p0 13 40).bind fun v7 => (xia h0 v7 v5).bind fun v8 => (xgr h0 p0 13 40).bind fun v9 => (xis h0 v9 v5 p2).bind fun h10 => some ((v8 - p2), h10)))) else none
theorem g_X12_lapse {h0 : AH} {N : Nat} {p0 : Nat} {p1 : Int32} {p2 : Int32} {x : (Int32 × AH)} (e : f_X12_lapse h0 N p0 p1 p2 = some x) : kd h0 p0 = 13 + 1 := by
  unfold f_X12_lapse at e
  by_cases hk : kd h0 p0 = 13 + 1
  · exact hk
  · rw [if_neg hk] at e
    cases e
theorem km_X12_lapse : KM yX12_lapse M_X12_lapse 2 := ⟨in_tb 1624 (by decide +kernel) rfl, in_tb 9 (by decide +kernel) rfl, by decide +kernel, rfl, rfl⟩
theorem hm_X12_lapse : M_X12_lapse.2.2.2.2.2.1 = 0 ∧ M_X12_lapse.2.2.2.2.2.2.1 = 0 := ⟨rfl, rfl⟩
section
variable {l : Launch} {g : GG}
end
set_option maxRecDepth 100000 in
set_option maxHeartbeats 4000000 in
theorem c_X12_lapse (l : Launch) (g : GG) (h0 : AH) (N : Nat) (p0 : Nat) (p1 : Int32) (p2 : Int32) : CN l g yX12_lapse M_X12_lapse false [.ref p0, .int p1, .int p2] h0 rSi (f_X12_lapse h0 N p0 p1 p2) := by
  refine CN.of (by decide) rfl (fun hh => by first | rfl | cases hh) (Nat.le_of_ble_eq_true rfl) ?_
  unfold f_X12_lapse
  refine a_gd (fun hkd => ?_)
  refine a_aload_n dX12_lapse_0 rfl 0 rfl ?_
  refine a_iload_n dX12_lapse_1 rfl 1 rfl ?_
  refine a_cV_Pi (r := p0) (ci := 13) (as := [.int p1]) (st := []) dX12_lapse_2 (c_X12_isFarm l g h0 p0 p1) rfl km_X12_isFarm (hm_X12_isFarm) rfl (by decide) rfl (fun _ ee => g_X12_isFarm ee) w_methodLink_RainCoverModel_346 w_instanceMethod_RainCoverModel_isFarm__I_Z w_selects_RainCoverModel_RainCoverModel_isFarm__I_Z_RainCoverModel_isFarm__I_Z ⟨⟨by decide, by decide⟩, ⟨by decide, by decide⟩⟩ (Nat.le_of_ble_eq_true rfl) (fun v1 => ?_)
  refine a_if_eq 15 dX12_lapse_5 (by decide) (fun c2 => ?_) (fun c2 => ?_)
  · refine a_iconst (v := (-1)) dX12_lapse_15 (by decide) ?_
    exact a_iret dX12_lapse_16 rfl rfl (by decide) (by decide)
  · refine a_iload_n dX12_lapse_8 rfl 2 rfl ?_
    refine a_cS_Pi (as := [.int p2]) (st := []) dX12_lapse_9 (c_X12_isSeason l g h0 p2) rfl km_X12_isSeason (hm_X12_isSeason) w_methodLink_RainCoverModel_221 w_static_RainCoverModel_isSeason__I_Z ⟨⟨by decide, by decide⟩, ⟨by decide, by decide⟩⟩ (Nat.le_of_ble_eq_true rfl) (fun v3 => ?_)
    refine a_if_ne 17 dX12_lapse_12 (by decide) (fun c4 => ?_) (fun c4 => ?_)
    · refine a_iconst (v := (-1)) dX12_lapse_15 (by decide) ?_
      exact a_iret dX12_lapse_16 rfl rfl (by decide) (by decide)
    · refine a_aload_n dX12_lapse_17 rfl 0 rfl ?_
      refine a_iload_n dX12_lapse_18 rfl 1 rfl ?_
      refine a_iload_n dX12_lapse_19 rfl 2 rfl ?_
      refine a_cV_Pi (r := p0) (ci := 13) (as := [.int p1, .int p2]) (st := []) dX12_lapse_20 (c_X12_coverOf l g h0 N p0 p1 p2) rfl km_X12_coverOf (hm_X12_coverOf) rfl (by decide) rfl (fun _ ee => g_X12_coverOf ee) w_methodLink_RainCoverModel_343 w_instanceMethod_RainCoverModel_coverOf__II_I w_selects_RainCoverModel_RainCoverModel_coverOf__II_I_RainCoverModel_coverOf__II_I ⟨⟨by decide, by decide⟩, ⟨by decide, by decide⟩⟩ (Nat.le_of_ble_eq_true rfl) (fun v5 => ?_)
      refine a_istore_n (lc2 := [(3, .int v5), (0, .ref p0), (1, .int p1), (2, .int p2)]) dX12_lapse_23 rfl (by decide) rfl ?_
      refine a_iload_n dX12_lapse_24 rfl 0 rfl ?_
      refine a_iconst (v := (-1)) dX12_lapse_25 (by decide) ?_
      refine a_icmp_ne 32 dX12_lapse_26 (by decide) (fun c6 => ?_) (fun c6 => ?_)
      · refine a_bipush (v := (-3)) dX12_lapse_29 (by decide) ?_
        exact a_iret dX12_lapse_31 rfl rfl (by decide) (by decide)
      · refine a_aload_n dX12_lapse_32 rfl 1 rfl ?_
        refine a_getr kc13 40 dX12_lapse_33 (by decide) rfl w_fieldLink_RainCoverModel_118 (fun v7 => ?_)
        refine a_iload_n dX12_lapse_36 rfl 0 rfl ?_
        refine a_iald dX12_lapse_37 (fun v8 => ?_)
        refine a_iload_n dX12_lapse_38 rfl 3 rfl ?_
        refine a_isub dX12_lapse_39 ?_
        refine a_istore (lc2 := [(4, .int (v8 - p2)), (3, .int v5), (0, .ref p0), (1, .int p1), (2, .int p2)]) dX12_lapse_40 (by decide) rfl ?_
        refine a_aload_n dX12_lapse_42 rfl 2 rfl ?_
        refine a_getr kc13 40 dX12_lapse_43 (by decide) rfl w_fieldLink_RainCoverModel_118 (fun v9 => ?_)
        refine a_iload_n dX12_lapse_46 rfl 1 rfl ?_
        refine a_iload_n dX12_lapse_47 rfl 4 rfl ?_
        refine a_iast dX12_lapse_48 (fun h10 => ?_)
        refine a_iload dX12_lapse_49 0 rfl ?_
        exact a_iret dX12_lapse_51 rfl rfl (by decide) (by decide)
theorem dX12_plantOf_0 : decode cX12_plantOf 0 = .ok (.aload_n 0, 1) := by decide +kernel
theorem dX12_plantOf_1 : decode cX12_plantOf 1 = .ok (.getfield 106, 3) := by decide +kernel
theorem dX12_plantOf_4 : decode cX12_plantOf 4 = .ok (.aload_n 0, 1) := by decide +kernel
theorem dX12_plantOf_5 : decode cX12_plantOf 5 = .ok (.getfield 82, 3) := by decide +kernel
theorem dX12_plantOf_8 : decode cX12_plantOf 8 = .ok (.iload_n 1, 1) := by decide +kernel
theorem dX12_plantOf_9 : decode cX12_plantOf 9 = .ok (.iaload, 1) := by decide +kernel
theorem dX12_plantOf_10 : decode cX12_plantOf 10 = .ok (.bipush 25, 2) := by decide +kernel
theorem dX12_plantOf_12 : decode cX12_plantOf 12 = .ok (.idiv, 1) := by decide +kernel
theorem dX12_plantOf_13 : decode cX12_plantOf 13 = .ok (.iaload, 1) := by decide +kernel
theorem dX12_plantOf_14 : decode cX12_plantOf 14 = .ok (.ireturn, 1) := by decide +kernel
abbrev M_X12_plantOf : MI := (RX12, cX12_plantOf, 2, (some .int), ({ frames := 0, cells := 0, slots := 0, locals := 0 } : Room), 0, 0, false)
def f_X12_plantOf (h : AH) (p0 : Nat) (p1 : Int32) : Option Int32 := if kd h p0 = 13 + 1 then (xgr h p0 13 35).bind fun v1 => (xgr h p0 13 27).bind fun v2 => (xia h v2 p1).bind fun v3 => (if 25 = 0 then none else (xia h v1 (v3 / 25)).bind fun v5 => some v5) else none
theorem g_X12_plantOf {h : AH} {p0 : Nat} {p1 : Int32} {x : Int32} (e : f_X12_plantOf h p0 p1 = some x) : kd h p0 = 13 + 1 := by
  unfold f_X12_plantOf at e
  by_cases hk : kd h p0 = 13 + 1
  · exact hk
  · rw [if_neg hk] at e
    cases e
theorem km_X12_plantOf : KM yX12_plantOf M_X12_plantOf 1 := ⟨in_tb 1652 (by decide +kernel) rfl, in_tb 9 (by decide +kernel) rfl, by decide +kernel, rfl, rfl⟩
theorem hm_X12_plantOf : M_X12_plantOf.2.2.2.2.2.1 = 0 ∧ M_X12_plantOf.2.2.2.2.2.2.1 = 0 := ⟨rfl, rfl⟩
section
variable {l : Launch} {g : GG}
end
set_option maxRecDepth 100000 in
set_option maxHeartbeats 4000000 in
theorem c_X12_plantOf (l : Launch) (g : GG) (h : AH) (p0 : Nat) (p1 : Int32) : CN l g yX12_plantOf M_X12_plantOf false [.ref p0, .int p1] h ((rPi h)) (f_X12_plantOf h p0 p1) := by
  refine CN.of (by decide) rfl (fun hh => by first | rfl | cases hh) (Nat.le_of_ble_eq_true rfl) ?_
  unfold f_X12_plantOf
  refine a_gd (fun hkd => ?_)
  refine a_aload_n dX12_plantOf_0 rfl 0 rfl ?_
  refine a_getr kc13 35 dX12_plantOf_1 (by decide) rfl w_fieldLink_RainCoverModel_106 (fun v1 => ?_)
  refine a_aload_n dX12_plantOf_4 rfl 0 rfl ?_
  refine a_getr kc13 27 dX12_plantOf_5 (by decide) rfl w_fieldLink_RainCoverModel_82 (fun v2 => ?_)
  refine a_iload_n dX12_plantOf_8 rfl 1 rfl ?_
  refine a_iald dX12_plantOf_9 (fun v3 => ?_)
  refine a_bipush (v := 25) dX12_plantOf_10 (by decide) ?_
  refine a_idiv dX12_plantOf_12 (fun c4 => ?_)
  refine a_iald dX12_plantOf_13 (fun v5 => ?_)
  exact a_iret dX12_plantOf_14 rfl rfl (by decide) (by decide)
theorem dX12_farmPay_0 : decode cX12_farmPay 0 = .ok (.aload_n 0, 1) := by decide +kernel
theorem dX12_farmPay_1 : decode cX12_farmPay 1 = .ok (.iload_n 2, 1) := by decide +kernel
theorem dX12_farmPay_2 : decode cX12_farmPay 2 = .ok (.iload_n 3, 1) := by decide +kernel
theorem dX12_farmPay_3 : decode cX12_farmPay 3 = .ok (.invokevirtual 349, 3) := by decide +kernel
theorem dX12_farmPay_6 : decode cX12_farmPay 6 = .ok (.istore 5, 2) := by decide +kernel
theorem dX12_farmPay_8 : decode cX12_farmPay 8 = .ok (.iload 5, 2) := by decide +kernel
theorem dX12_farmPay_10 : decode cX12_farmPay 10 = .ok (.iconst (-1), 1) := by decide +kernel
theorem dX12_farmPay_11 : decode cX12_farmPay 11 = .ok (.if_icmp .ne 7, 3) := by decide +kernel
theorem dX12_farmPay_14 : decode cX12_farmPay 14 = .ok (.iconst 0, 1) := by decide +kernel
theorem dX12_farmPay_15 : decode cX12_farmPay 15 = .ok (.goto 24, 3) := by decide +kernel
theorem dX12_farmPay_18 : decode cX12_farmPay 18 = .ok (.aload_n 0, 1) := by decide +kernel
theorem dX12_farmPay_19 : decode cX12_farmPay 19 = .ok (.iload_n 1, 1) := by decide +kernel
theorem dX12_farmPay_20 : decode cX12_farmPay 20 = .ok (.iload 4, 2) := by decide +kernel
theorem dX12_farmPay_22 : decode cX12_farmPay 22 = .ok (.iload 5, 2) := by decide +kernel
theorem dX12_farmPay_24 : decode cX12_farmPay 24 = .ok (.iload_n 3, 1) := by decide +kernel
theorem dX12_farmPay_25 : decode cX12_farmPay 25 = .ok (.aload_n 0, 1) := by decide +kernel
theorem dX12_farmPay_26 : decode cX12_farmPay 26 = .ok (.iload_n 2, 1) := by decide +kernel
theorem dX12_farmPay_27 : decode cX12_farmPay 27 = .ok (.invokevirtual 352, 3) := by decide +kernel
theorem dX12_farmPay_30 : decode cX12_farmPay 30 = .ok (.aload_n 0, 1) := by decide +kernel
theorem dX12_farmPay_31 : decode cX12_farmPay 31 = .ok (.getfield 88, 3) := by decide +kernel
theorem dX12_farmPay_34 : decode cX12_farmPay 34 = .ok (.iload_n 2, 1) := by decide +kernel
theorem dX12_farmPay_35 : decode cX12_farmPay 35 = .ok (.iaload, 1) := by decide +kernel
theorem dX12_farmPay_36 : decode cX12_farmPay 36 = .ok (.invokevirtual 331, 3) := by decide +kernel
theorem dX12_farmPay_39 : decode cX12_farmPay 39 = .ok (.ireturn, 1) := by decide +kernel
abbrev M_X12_farmPay : MI := (RX12, cX12_farmPay, 6, (some .int), ({ frames := 7, cells := 0, slots := 0, locals := 179 } : Room), 0, 0, false)
def f_X12_farmPay (h : AH) (N : Nat) (p0 : Nat) (p1 : Int32) (p2 : Int32) (p3 : Int32) (p4 : Int32) : Option Int32 := if kd h p0 = 13 + 1 then (f_X12_gaugeOf h N p0 p2 p3).bind fun v1 => (if v1 = (-1) then some 0 else (f_X12_plantOf h p0 p2).bind fun v3 => (xgr h p0 13 29).bind fun v4 => (xia h v4 p2).bind fun v5 => (f_X12_payOf h N p0 p1 p4 v1 p3 v3 v5).bind fun v6 => some v6) else none
theorem g_X12_farmPay {h : AH} {N : Nat} {p0 : Nat} {p1 : Int32} {p2 : Int32} {p3 : Int32} {p4 : Int32} {x : Int32} (e : f_X12_farmPay h N p0 p1 p2 p3 p4 = some x) : kd h p0 = 13 + 1 := by
  unfold f_X12_farmPay at e
  by_cases hk : kd h p0 = 13 + 1
  · exact hk
  · rw [if_neg hk] at e
    cases e
theorem km_X12_farmPay : KM yX12_farmPay M_X12_farmPay 4 := ⟨in_tb 1648 (by decide +kernel) rfl, in_tb 9 (by decide +kernel) rfl, by decide +kernel, rfl, rfl⟩
theorem hm_X12_farmPay : M_X12_farmPay.2.2.2.2.2.1 = 0 ∧ M_X12_farmPay.2.2.2.2.2.2.1 = 0 := ⟨rfl, rfl⟩
section
variable {l : Launch} {g : GG}
end
set_option maxRecDepth 100000 in
set_option maxHeartbeats 4000000 in
theorem c_X12_farmPay (l : Launch) (g : GG) (h : AH) (N : Nat) (p0 : Nat) (p1 : Int32) (p2 : Int32) (p3 : Int32) (p4 : Int32) : CN l g yX12_farmPay M_X12_farmPay false [.ref p0, .int p1, .int p2, .int p3, .int p4] h ((rPi h)) (f_X12_farmPay h N p0 p1 p2 p3 p4) := by
  refine CN.of (by decide) rfl (fun hh => by first | rfl | cases hh) (Nat.le_of_ble_eq_true rfl) ?_
  unfold f_X12_farmPay
  refine a_gd (fun hkd => ?_)
  refine a_aload_n dX12_farmPay_0 rfl 0 rfl ?_
  refine a_iload_n dX12_farmPay_1 rfl 2 rfl ?_
  refine a_iload_n dX12_farmPay_2 rfl 3 rfl ?_
  refine a_cV_Pi (r := p0) (ci := 13) (as := [.int p2, .int p3]) (st := []) dX12_farmPay_3 (c_X12_gaugeOf l g h N p0 p2 p3) rfl km_X12_gaugeOf (hm_X12_gaugeOf) rfl (by decide) rfl (fun _ ee => g_X12_gaugeOf ee) w_methodLink_RainCoverModel_349 w_instanceMethod_RainCoverModel_gaugeOf__II_I w_selects_RainCoverModel_RainCoverModel_gaugeOf__II_I_RainCoverModel_gaugeOf__II_I ⟨⟨by decide, by decide⟩, ⟨by decide, by decide⟩⟩ (Nat.le_of_ble_eq_true rfl) (fun v1 => ?_)
  refine a_istore (lc2 := [(5, .int v1), (0, .ref p0), (1, .int p1), (2, .int p2), (3, .int p3), (4, .int p4)]) dX12_farmPay_6 (by decide) rfl ?_
  refine a_iload dX12_farmPay_8 0 rfl ?_
  refine a_iconst (v := (-1)) dX12_farmPay_10 (by decide) ?_
  refine a_icmp_ne 18 dX12_farmPay_11 (by decide) (fun c2 => ?_) (fun c2 => ?_)
  · refine a_iconst (v := 0) dX12_farmPay_14 (by decide) ?_
    refine a_goto 39 dX12_farmPay_15 (by decide) ?_
    exact a_iret dX12_farmPay_39 rfl rfl (by decide) (by decide)
  · refine a_aload_n dX12_farmPay_18 rfl 1 rfl ?_
    refine a_iload_n dX12_farmPay_19 rfl 2 rfl ?_
    refine a_iload dX12_farmPay_20 5 rfl ?_
    refine a_iload dX12_farmPay_22 0 rfl ?_
    refine a_iload_n dX12_farmPay_24 rfl 4 rfl ?_
    refine a_aload_n dX12_farmPay_25 rfl 1 rfl ?_
    refine a_iload_n dX12_farmPay_26 rfl 3 rfl ?_
    refine a_cV_Pi (r := p0) (ci := 13) (as := [.int p2]) (st := [.int p3, .int v1, .int p4, .int p1, .ref p0]) dX12_farmPay_27 (c_X12_plantOf l g h p0 p2) rfl km_X12_plantOf (hm_X12_plantOf) rfl (by decide) rfl (fun _ ee => g_X12_plantOf ee) w_methodLink_RainCoverModel_352 w_instanceMethod_RainCoverModel_plantOf__I_I w_selects_RainCoverModel_RainCoverModel_plantOf__I_I_RainCoverModel_plantOf__I_I ⟨⟨by decide, by decide⟩, ⟨by decide, by decide⟩⟩ (Nat.le_of_ble_eq_true rfl) (fun v3 => ?_)
    refine a_aload_n dX12_farmPay_30 rfl 1 rfl ?_
    refine a_getr kc13 29 dX12_farmPay_31 (by decide) rfl w_fieldLink_RainCoverModel_88 (fun v4 => ?_)
    refine a_iload_n dX12_farmPay_34 rfl 3 rfl ?_
    refine a_iald dX12_farmPay_35 (fun v5 => ?_)
    refine a_cV_Pi (r := p0) (ci := 13) (as := [.int p1, .int p4, .int v1, .int p3, .int v3, .int v5]) (st := []) dX12_farmPay_36 (c_X12_payOf l g h N p0 p1 p4 v1 p3 v3 v5) rfl km_X12_payOf (hm_X12_payOf) rfl (by decide) rfl (fun _ ee => g_X12_payOf ee) w_methodLink_RainCoverModel_331 w_instanceMethod_RainCoverModel_payOf__IIIIII_I w_selects_RainCoverModel_RainCoverModel_payOf__IIIIII_I_RainCoverModel_payOf__IIIIII_I ⟨⟨by decide, by decide⟩, ⟨by decide, by decide⟩⟩ (Nat.le_of_ble_eq_true rfl) (fun v6 => ?_)
    exact a_iret dX12_farmPay_39 rfl rfl (by decide) (by decide)
theorem dX12_of_0 : decode cX12_of 0 = .ok (.aload_n 0, 1) := by decide +kernel
theorem dX12_of_1 : decode cX12_of 1 = .ok (.iload_n 1, 1) := by decide +kernel
theorem dX12_of_2 : decode cX12_of 2 = .ok (.invokevirtual 346, 3) := by decide +kernel
theorem dX12_of_5 : decode cX12_of 5 = .ok (.ifCond .eq 10, 3) := by decide +kernel
theorem dX12_of_8 : decode cX12_of 8 = .ok (.iload_n 2, 1) := by decide +kernel
theorem dX12_of_9 : decode cX12_of 9 = .ok (.invokestatic 221, 3) := by decide +kernel
theorem dX12_of_12 : decode cX12_of 12 = .ok (.ifCond .ne 6, 3) := by decide +kernel
theorem dX12_of_15 : decode cX12_of 15 = .ok (.bipush (-5), 2) := by decide +kernel
theorem dX12_of_17 : decode cX12_of 17 = .ok (.ireturn, 1) := by decide +kernel
theorem dX12_of_18 : decode cX12_of 18 = .ok (.aload_n 0, 1) := by decide +kernel
theorem dX12_of_19 : decode cX12_of 19 = .ok (.iload_n 1, 1) := by decide +kernel
theorem dX12_of_20 : decode cX12_of 20 = .ok (.iload_n 2, 1) := by decide +kernel
theorem dX12_of_21 : decode cX12_of 21 = .ok (.invokevirtual 349, 3) := by decide +kernel
theorem dX12_of_24 : decode cX12_of 24 = .ok (.istore 4, 2) := by decide +kernel
theorem dX12_of_26 : decode cX12_of 26 = .ok (.aload_n 0, 1) := by decide +kernel
theorem dX12_of_27 : decode cX12_of 27 = .ok (.iload_n 1, 1) := by decide +kernel
theorem dX12_of_28 : decode cX12_of 28 = .ok (.iload_n 2, 1) := by decide +kernel
theorem dX12_of_29 : decode cX12_of 29 = .ok (.invokevirtual 355, 3) := by decide +kernel
theorem dX12_of_32 : decode cX12_of 32 = .ok (.istore 5, 2) := by decide +kernel
theorem dX12_of_34 : decode cX12_of 34 = .ok (.iload_n 3, 1) := by decide +kernel
theorem dX12_of_35 : decode cX12_of 35 = .ok (.tableswitch 115 0 5 #[37, 40, 43, 73, 93, 103], 37) := by decide +kernel
theorem dX12_of_72 : decode cX12_of 72 = .ok (.iload 4, 2) := by decide +kernel
theorem dX12_of_74 : decode cX12_of 74 = .ok (.ireturn, 1) := by decide +kernel
theorem dX12_of_75 : decode cX12_of 75 = .ok (.iload 5, 2) := by decide +kernel
theorem dX12_of_77 : decode cX12_of 77 = .ok (.ireturn, 1) := by decide +kernel
theorem dX12_of_78 : decode cX12_of 78 = .ok (.iload 4, 2) := by decide +kernel
theorem dX12_of_80 : decode cX12_of 80 = .ok (.iconst (-1), 1) := by decide +kernel
theorem dX12_of_81 : decode cX12_of 81 = .ok (.if_icmp .ne 7, 3) := by decide +kernel
theorem dX12_of_84 : decode cX12_of 84 = .ok (.iconst (-1), 1) := by decide +kernel
theorem dX12_of_85 : decode cX12_of 85 = .ok (.goto 22, 3) := by decide +kernel
theorem dX12_of_88 : decode cX12_of 88 = .ok (.aload_n 0, 1) := by decide +kernel
theorem dX12_of_89 : decode cX12_of 89 = .ok (.iload_n 1, 1) := by decide +kernel
theorem dX12_of_90 : decode cX12_of 90 = .ok (.aload_n 0, 1) := by decide +kernel
theorem dX12_of_91 : decode cX12_of 91 = .ok (.getfield 9, 3) := by decide +kernel
theorem dX12_of_94 : decode cX12_of 94 = .ok (.iload 4, 2) := by decide +kernel
theorem dX12_of_96 : decode cX12_of 96 = .ok (.iaload, 1) := by decide +kernel
theorem dX12_of_97 : decode cX12_of 97 = .ok (.aload_n 0, 1) := by decide +kernel
theorem dX12_of_98 : decode cX12_of 98 = .ok (.getfield 15, 3) := by decide +kernel
theorem dX12_of_101 : decode cX12_of 101 = .ok (.iload 4, 2) := by decide +kernel
theorem dX12_of_103 : decode cX12_of 103 = .ok (.iaload, 1) := by decide +kernel
theorem dX12_of_104 : decode cX12_of 104 = .ok (.invokevirtual 334, 3) := by decide +kernel
theorem dX12_of_107 : decode cX12_of 107 = .ok (.ireturn, 1) := by decide +kernel
theorem dX12_of_108 : decode cX12_of 108 = .ok (.iload 5, 2) := by decide +kernel
theorem dX12_of_110 : decode cX12_of 110 = .ok (.iconst (-1), 1) := by decide +kernel
theorem dX12_of_111 : decode cX12_of 111 = .ok (.if_icmp .ne 7, 3) := by decide +kernel
theorem dX12_of_114 : decode cX12_of 114 = .ok (.iconst (-1), 1) := by decide +kernel
theorem dX12_of_115 : decode cX12_of 115 = .ok (.goto 12, 3) := by decide +kernel
theorem dX12_of_118 : decode cX12_of 118 = .ok (.aload_n 0, 1) := by decide +kernel
theorem dX12_of_119 : decode cX12_of 119 = .ok (.iconst 0, 1) := by decide +kernel
theorem dX12_of_120 : decode cX12_of 120 = .ok (.iload_n 1, 1) := by decide +kernel
theorem dX12_of_121 : decode cX12_of 121 = .ok (.iload_n 2, 1) := by decide +kernel
theorem dX12_of_122 : decode cX12_of 122 = .ok (.iload 5, 2) := by decide +kernel
theorem dX12_of_124 : decode cX12_of 124 = .ok (.invokevirtual 358, 3) := by decide +kernel
theorem dX12_of_127 : decode cX12_of 127 = .ok (.ireturn, 1) := by decide +kernel
theorem dX12_of_128 : decode cX12_of 128 = .ok (.aload_n 0, 1) := by decide +kernel
theorem dX12_of_129 : decode cX12_of 129 = .ok (.getfield 82, 3) := by decide +kernel
theorem dX12_of_132 : decode cX12_of 132 = .ok (.iload_n 1, 1) := by decide +kernel
theorem dX12_of_133 : decode cX12_of 133 = .ok (.iaload, 1) := by decide +kernel
theorem dX12_of_134 : decode cX12_of 134 = .ok (.bipush 25, 2) := by decide +kernel
theorem dX12_of_136 : decode cX12_of 136 = .ok (.idiv, 1) := by decide +kernel
theorem dX12_of_137 : decode cX12_of 137 = .ok (.ireturn, 1) := by decide +kernel
theorem dX12_of_138 : decode cX12_of 138 = .ok (.aload_n 0, 1) := by decide +kernel
theorem dX12_of_139 : decode cX12_of 139 = .ok (.getfield 103, 3) := by decide +kernel
theorem dX12_of_142 : decode cX12_of 142 = .ok (.bipush 16, 2) := by decide +kernel
theorem dX12_of_144 : decode cX12_of 144 = .ok (.iload_n 1, 1) := by decide +kernel
theorem dX12_of_145 : decode cX12_of 145 = .ok (.imul, 1) := by decide +kernel
theorem dX12_of_146 : decode cX12_of 146 = .ok (.iload_n 2, 1) := by decide +kernel
theorem dX12_of_147 : decode cX12_of 147 = .ok (.iadd, 1) := by decide +kernel
theorem dX12_of_148 : decode cX12_of 148 = .ok (.iaload, 1) := by decide +kernel
theorem dX12_of_149 : decode cX12_of 149 = .ok (.ireturn, 1) := by decide +kernel
theorem dX12_of_150 : decode cX12_of 150 = .ok (.bipush (-5), 2) := by decide +kernel
theorem dX12_of_152 : decode cX12_of 152 = .ok (.ireturn, 1) := by decide +kernel
abbrev M_X12_of : MI := (RX12, cX12_of, 6, (some .int), ({ frames := 8, cells := 0, slots := 0, locals := 204 } : Room), 0, 0, false)
def f_X12_of (h : AH) (N : Nat) (p0 : Nat) (p1 : Int32) (p2 : Int32) (p3 : Int32) : Option Int32 := if kd h p0 = 13 + 1 then (f_X12_isFarm h p0 p1).bind fun v1 => (if v1 = 0 then some (-5) else (f_X12_isSeason h p2).bind fun v3 => (if v3 = 0 then some (-5) else (f_X12_gaugeOf h N p0 p1 p2).bind fun v5 => (f_X12_termOf h N p0 p1 p2).bind fun v6 => (if p3 = 0 then some v5 else (if p3 = 1 then some v6 else (if p3 = 2 then (if v5 = (-1) then some (-1) else (xgr h p0 13 1).bind fun v11 => (xia h v11 v5).bind fun v12 => (xgr h p0 13 2).bind fun v13 => (xia h v13 v5).bind fun v14 => (f_X12_farFrom h p0 p1 v12 v14).bind fun v15 => some v15) else (if p3 = 3 then (if v6 = (-1) then some (-1) else (f_X12_farmPay h N p0 0 p1 p2 v6).bind fun v18 => some v18) else (if p3 = 4 then (xgr h p0 13 27).bind fun v20 => (xia h v20 p1).bind fun v21 => (if 25 = 0 then none else some (v21 / 25)) else (if p3 = 5 then (xgr h p0 13 34).bind fun v24 => (xia h v24 ((16 * p1) + p2)).bind fun v25 => some v25 else some (-5))))))))) else none
theorem g_X12_of {h : AH} {N : Nat} {p0 : Nat} {p1 : Int32} {p2 : Int32} {p3 : Int32} {x : Int32} (e : f_X12_of h N p0 p1 p2 p3 = some x) : kd h p0 = 13 + 1 := by
  unfold f_X12_of at e
  by_cases hk : kd h p0 = 13 + 1
  · exact hk
  · rw [if_neg hk] at e
    cases e
theorem km_X12_of : KM yX12_of M_X12_of 3 := ⟨in_tb 1628 (by decide +kernel) rfl, in_tb 9 (by decide +kernel) rfl, by decide +kernel, rfl, rfl⟩
theorem hm_X12_of : M_X12_of.2.2.2.2.2.1 = 0 ∧ M_X12_of.2.2.2.2.2.2.1 = 0 := ⟨rfl, rfl⟩
section
variable {l : Launch} {g : GG}
end
set_option maxRecDepth 100000 in
set_option maxHeartbeats 4000000 in
theorem c_X12_of (l : Launch) (g : GG) (h : AH) (N : Nat) (p0 : Nat) (p1 : Int32) (p2 : Int32) (p3 : Int32) : CN l g yX12_of M_X12_of false [.ref p0, .int p1, .int p2, .int p3] h ((rPi h)) (f_X12_of h N p0 p1 p2 p3) := by
  refine CN.of (by decide) rfl (fun hh => by first | rfl | cases hh) (Nat.le_of_ble_eq_true rfl) ?_
  unfold f_X12_of
  refine a_gd (fun hkd => ?_)
  refine a_aload_n dX12_of_0 rfl 0 rfl ?_
  refine a_iload_n dX12_of_1 rfl 1 rfl ?_
  refine a_cV_Pi (r := p0) (ci := 13) (as := [.int p1]) (st := []) dX12_of_2 (c_X12_isFarm l g h p0 p1) rfl km_X12_isFarm (hm_X12_isFarm) rfl (by decide) rfl (fun _ ee => g_X12_isFarm ee) w_methodLink_RainCoverModel_346 w_instanceMethod_RainCoverModel_isFarm__I_Z w_selects_RainCoverModel_RainCoverModel_isFarm__I_Z_RainCoverModel_isFarm__I_Z ⟨⟨by decide, by decide⟩, ⟨by decide, by decide⟩⟩ (Nat.le_of_ble_eq_true rfl) (fun v1 => ?_)
  refine a_if_eq 15 dX12_of_5 (by decide) (fun c2 => ?_) (fun c2 => ?_)
  · refine a_bipush (v := (-5)) dX12_of_15 (by decide) ?_
    exact a_iret dX12_of_17 rfl rfl (by decide) (by decide)
  · refine a_iload_n dX12_of_8 rfl 2 rfl ?_
    refine a_cS_Pi (as := [.int p2]) (st := []) dX12_of_9 (c_X12_isSeason l g h p2) rfl km_X12_isSeason (hm_X12_isSeason) w_methodLink_RainCoverModel_221 w_static_RainCoverModel_isSeason__I_Z ⟨⟨by decide, by decide⟩, ⟨by decide, by decide⟩⟩ (Nat.le_of_ble_eq_true rfl) (fun v3 => ?_)
    refine a_if_ne 18 dX12_of_12 (by decide) (fun c4 => ?_) (fun c4 => ?_)
    · refine a_bipush (v := (-5)) dX12_of_15 (by decide) ?_
      exact a_iret dX12_of_17 rfl rfl (by decide) (by decide)
    · refine a_aload_n dX12_of_18 rfl 0 rfl ?_
      refine a_iload_n dX12_of_19 rfl 1 rfl ?_
      refine a_iload_n dX12_of_20 rfl 2 rfl ?_
      refine a_cV_Pi (r := p0) (ci := 13) (as := [.int p1, .int p2]) (st := []) dX12_of_21 (c_X12_gaugeOf l g h N p0 p1 p2) rfl km_X12_gaugeOf (hm_X12_gaugeOf) rfl (by decide) rfl (fun _ ee => g_X12_gaugeOf ee) w_methodLink_RainCoverModel_349 w_instanceMethod_RainCoverModel_gaugeOf__II_I w_selects_RainCoverModel_RainCoverModel_gaugeOf__II_I_RainCoverModel_gaugeOf__II_I ⟨⟨by decide, by decide⟩, ⟨by decide, by decide⟩⟩ (Nat.le_of_ble_eq_true rfl) (fun v5 => ?_)
      refine a_istore (lc2 := [(4, .int v5), (0, .ref p0), (1, .int p1), (2, .int p2), (3, .int p3)]) dX12_of_24 (by decide) rfl ?_
      refine a_aload_n dX12_of_26 rfl 1 rfl ?_
      refine a_iload_n dX12_of_27 rfl 2 rfl ?_
      refine a_iload_n dX12_of_28 rfl 3 rfl ?_
      refine a_cV_Pi (r := p0) (ci := 13) (as := [.int p1, .int p2]) (st := []) dX12_of_29 (c_X12_termOf l g h N p0 p1 p2) rfl km_X12_termOf (hm_X12_termOf) rfl (by decide) rfl (fun _ ee => g_X12_termOf ee) w_methodLink_RainCoverModel_355 w_instanceMethod_RainCoverModel_termOf__II_I w_selects_RainCoverModel_RainCoverModel_termOf__II_I_RainCoverModel_termOf__II_I ⟨⟨by decide, by decide⟩, ⟨by decide, by decide⟩⟩ (Nat.le_of_ble_eq_true rfl) (fun v6 => ?_)
      refine a_istore (lc2 := [(5, .int v6), (4, .int v5), (0, .ref p0), (1, .int p1), (2, .int p2), (3, .int p3)]) dX12_of_32 (by decide) rfl ?_
      refine a_iload_n dX12_of_34 rfl 5 rfl ?_
      refine a_swt (v := 0) 72 dX12_of_35 (by decide) (by decide) (fun c7 => ?_) (fun c7 => ?_)
      · refine a_iload dX12_of_72 1 rfl ?_
        exact a_iret dX12_of_74 rfl rfl (by decide) (by decide)
      refine a_swt (v := 1) 75 dX12_of_35 (by decide) (by decide) (fun c8 => ?_) (fun c8 => ?_)
      · refine a_iload dX12_of_75 0 rfl ?_
        exact a_iret dX12_of_77 rfl rfl (by decide) (by decide)
      refine a_swt (v := 2) 78 dX12_of_35 (by decide) (by decide) (fun c9 => ?_) (fun c9 => ?_)
      · refine a_iload dX12_of_78 1 rfl ?_
        refine a_iconst (v := (-1)) dX12_of_80 (by decide) ?_
        refine a_icmp_ne 88 dX12_of_81 (by decide) (fun c10 => ?_) (fun c10 => ?_)
        · refine a_iconst (v := (-1)) dX12_of_84 (by decide) ?_
          refine a_goto 107 dX12_of_85 (by decide) ?_
          exact a_iret dX12_of_107 rfl rfl (by decide) (by decide)
        · refine a_aload_n dX12_of_88 rfl 2 rfl ?_
          refine a_iload_n dX12_of_89 rfl 3 rfl ?_
          refine a_aload_n dX12_of_90 rfl 2 rfl ?_
          refine a_getr kc13 1 dX12_of_91 (by decide) rfl w_fieldLink_RainCoverModel_9 (fun v11 => ?_)
          refine a_iload dX12_of_94 1 rfl ?_
          refine a_iald dX12_of_96 (fun v12 => ?_)
          refine a_aload_n dX12_of_97 rfl 2 rfl ?_
          refine a_getr kc13 2 dX12_of_98 (by decide) rfl w_fieldLink_RainCoverModel_15 (fun v13 => ?_)
          refine a_iload dX12_of_101 1 rfl ?_
          refine a_iald dX12_of_103 (fun v14 => ?_)
          refine a_cV_Pi (r := p0) (ci := 13) (as := [.int p1, .int v12, .int v14]) (st := []) dX12_of_104 (c_X12_farFrom l g h p0 p1 v12 v14) rfl km_X12_farFrom (hm_X12_farFrom) rfl (by decide) rfl (fun _ ee => g_X12_farFrom ee) w_methodLink_RainCoverModel_334 w_instanceMethod_RainCoverModel_farFrom__III_I w_selects_RainCoverModel_RainCoverModel_farFrom__III_I_RainCoverModel_farFrom__III_I ⟨⟨by decide, by decide⟩, ⟨by decide, by decide⟩⟩ (Nat.le_of_ble_eq_true rfl) (fun v15 => ?_)
          exact a_iret dX12_of_107 rfl rfl (by decide) (by decide)
      refine a_swt (v := 3) 108 dX12_of_35 (by decide) (by decide) (fun c16 => ?_) (fun c16 => ?_)
      · refine a_iload dX12_of_108 0 rfl ?_
        refine a_iconst (v := (-1)) dX12_of_110 (by decide) ?_
        refine a_icmp_ne 118 dX12_of_111 (by decide) (fun c17 => ?_) (fun c17 => ?_)
        · refine a_iconst (v := (-1)) dX12_of_114 (by decide) ?_
          refine a_goto 127 dX12_of_115 (by decide) ?_
          exact a_iret dX12_of_127 rfl rfl (by decide) (by decide)
        · refine a_aload_n dX12_of_118 rfl 2 rfl ?_
          refine a_iconst (v := 0) dX12_of_119 (by decide) ?_
          refine a_iload_n dX12_of_120 rfl 3 rfl ?_
          refine a_iload_n dX12_of_121 rfl 4 rfl ?_
          refine a_iload dX12_of_122 0 rfl ?_
          refine a_cV_Pi (r := p0) (ci := 13) (as := [.int 0, .int p1, .int p2, .int v6]) (st := []) dX12_of_124 (c_X12_farmPay l g h N p0 0 p1 p2 v6) rfl km_X12_farmPay (hm_X12_farmPay) rfl (by decide) rfl (fun _ ee => g_X12_farmPay ee) w_methodLink_RainCoverModel_358 w_instanceMethod_RainCoverModel_farmPay__IIII_I w_selects_RainCoverModel_RainCoverModel_farmPay__IIII_I_RainCoverModel_farmPay__IIII_I ⟨⟨by decide, by decide⟩, ⟨by decide, by decide⟩⟩ (Nat.le_of_ble_eq_true rfl) (fun v18 => ?_)
          exact a_iret dX12_of_127 rfl rfl (by decide) (by decide)
      refine a_swt (v := 4) 128 dX12_of_35 (by decide) (by decide) (fun c19 => ?_) (fun c19 => ?_)
      · refine a_aload_n dX12_of_128 rfl 2 rfl ?_
        refine a_getr kc13 27 dX12_of_129 (by decide) rfl w_fieldLink_RainCoverModel_82 (fun v20 => ?_)
        refine a_iload_n dX12_of_132 rfl 3 rfl ?_
        refine a_iald dX12_of_133 (fun v21 => ?_)
        refine a_bipush (v := 25) dX12_of_134 (by decide) ?_
        refine a_idiv dX12_of_136 (fun c22 => ?_)
        exact a_iret dX12_of_137 rfl rfl (by decide) (by decide)
      refine a_swt (v := 5) 138 dX12_of_35 (by decide) (by decide) (fun c23 => ?_) (fun c23 => ?_)
      · refine a_aload_n dX12_of_138 rfl 2 rfl ?_
        refine a_getr kc13 34 dX12_of_139 (by decide) rfl w_fieldLink_RainCoverModel_103 (fun v24 => ?_)
        refine a_bipush (v := 16) dX12_of_142 (by decide) ?_
        refine a_iload_n dX12_of_144 rfl 3 rfl ?_
        refine a_imul dX12_of_145 ?_
        refine a_iload_n dX12_of_146 rfl 4 rfl ?_
        refine a_iadd dX12_of_147 ?_
        refine a_iald dX12_of_148 (fun v25 => ?_)
        exact a_iret dX12_of_149 rfl rfl (by decide) (by decide)
      refine a_swtd (vs := [0, 1, 2, 3, 4, 5]) 150 dX12_of_35 (by decide) (by decide) (List.forall_mem_cons.mpr ⟨c7, List.forall_mem_cons.mpr ⟨c8, List.forall_mem_cons.mpr ⟨c9, List.forall_mem_cons.mpr ⟨c16, List.forall_mem_cons.mpr ⟨c19, List.forall_mem_cons.mpr ⟨c23, fun _ hh => absurd hh List.not_mem_nil⟩⟩⟩⟩⟩⟩) ?_
      refine a_bipush (v := (-5)) dX12_of_150 (by decide) ?_
      exact a_iret dX12_of_152 rfl rfl (by decide) (by decide)
theorem dX12_dueOf_0 : decode cX12_dueOf 0 = .ok (.aload_n 0, 1) := by decide +kernel
theorem dX12_dueOf_1 : decode cX12_dueOf 1 = .ok (.iload_n 2, 1) := by decide +kernel
theorem dX12_dueOf_2 : decode cX12_dueOf 2 = .ok (.iload_n 3, 1) := by decide +kernel
theorem dX12_dueOf_3 : decode cX12_dueOf 3 = .ok (.invokevirtual 355, 3) := by decide +kernel
theorem dX12_dueOf_6 : decode cX12_dueOf 6 = .ok (.istore 4, 2) := by decide +kernel
theorem dX12_dueOf_8 : decode cX12_dueOf 8 = .ok (.iload 4, 2) := by decide +kernel
theorem dX12_dueOf_10 : decode cX12_dueOf 10 = .ok (.iconst (-1), 1) := by decide +kernel
theorem dX12_dueOf_11 : decode cX12_dueOf 11 = .ok (.if_icmp .ne 7, 3) := by decide +kernel
theorem dX12_dueOf_14 : decode cX12_dueOf 14 = .ok (.iconst 0, 1) := by decide +kernel
theorem dX12_dueOf_15 : decode cX12_dueOf 15 = .ok (.goto 19, 3) := by decide +kernel
theorem dX12_dueOf_18 : decode cX12_dueOf 18 = .ok (.aload_n 0, 1) := by decide +kernel
theorem dX12_dueOf_19 : decode cX12_dueOf 19 = .ok (.getfield 91, 3) := by decide +kernel
theorem dX12_dueOf_22 : decode cX12_dueOf 22 = .ok (.iload_n 2, 1) := by decide +kernel
theorem dX12_dueOf_23 : decode cX12_dueOf 23 = .ok (.iaload, 1) := by decide +kernel
theorem dX12_dueOf_24 : decode cX12_dueOf 24 = .ok (.aload_n 0, 1) := by decide +kernel
theorem dX12_dueOf_25 : decode cX12_dueOf 25 = .ok (.iload_n 1, 1) := by decide +kernel
theorem dX12_dueOf_26 : decode cX12_dueOf 26 = .ok (.iload_n 2, 1) := by decide +kernel
theorem dX12_dueOf_27 : decode cX12_dueOf 27 = .ok (.iload_n 3, 1) := by decide +kernel
theorem dX12_dueOf_28 : decode cX12_dueOf 28 = .ok (.iload 4, 2) := by decide +kernel
theorem dX12_dueOf_30 : decode cX12_dueOf 30 = .ok (.invokevirtual 358, 3) := by decide +kernel
theorem dX12_dueOf_33 : decode cX12_dueOf 33 = .ok (.imul, 1) := by decide +kernel
theorem dX12_dueOf_34 : decode cX12_dueOf 34 = .ok (.ireturn, 1) := by decide +kernel
abbrev M_X12_dueOf : MI := (RX12, cX12_dueOf, 5, (some .int), ({ frames := 8, cells := 0, slots := 0, locals := 204 } : Room), 0, 0, false)
def f_X12_dueOf (h : AH) (N : Nat) (p0 : Nat) (p1 : Int32) (p2 : Int32) (p3 : Int32) : Option Int32 := if kd h p0 = 13 + 1 then (f_X12_termOf h N p0 p2 p3).bind fun v1 => (if v1 = (-1) then some 0 else (xgr h p0 13 30).bind fun v3 => (xia h v3 p2).bind fun v4 => (f_X12_farmPay h N p0 p1 p2 p3 v1).bind fun v5 => some (v4 * v5)) else none
theorem g_X12_dueOf {h : AH} {N : Nat} {p0 : Nat} {p1 : Int32} {p2 : Int32} {p3 : Int32} {x : Int32} (e : f_X12_dueOf h N p0 p1 p2 p3 = some x) : kd h p0 = 13 + 1 := by
  unfold f_X12_dueOf at e
  by_cases hk : kd h p0 = 13 + 1
  · exact hk
  · rw [if_neg hk] at e
    cases e
theorem km_X12_dueOf : KM yX12_dueOf M_X12_dueOf 3 := ⟨in_tb 1660 (by decide +kernel) rfl, in_tb 9 (by decide +kernel) rfl, by decide +kernel, rfl, rfl⟩
theorem hm_X12_dueOf : M_X12_dueOf.2.2.2.2.2.1 = 0 ∧ M_X12_dueOf.2.2.2.2.2.2.1 = 0 := ⟨rfl, rfl⟩
section
variable {l : Launch} {g : GG}
end
set_option maxRecDepth 100000 in
set_option maxHeartbeats 4000000 in
theorem c_X12_dueOf (l : Launch) (g : GG) (h : AH) (N : Nat) (p0 : Nat) (p1 : Int32) (p2 : Int32) (p3 : Int32) : CN l g yX12_dueOf M_X12_dueOf false [.ref p0, .int p1, .int p2, .int p3] h ((rPi h)) (f_X12_dueOf h N p0 p1 p2 p3) := by
  refine CN.of (by decide) rfl (fun hh => by first | rfl | cases hh) (Nat.le_of_ble_eq_true rfl) ?_
  unfold f_X12_dueOf
  refine a_gd (fun hkd => ?_)
  refine a_aload_n dX12_dueOf_0 rfl 0 rfl ?_
  refine a_iload_n dX12_dueOf_1 rfl 2 rfl ?_
  refine a_iload_n dX12_dueOf_2 rfl 3 rfl ?_
  refine a_cV_Pi (r := p0) (ci := 13) (as := [.int p2, .int p3]) (st := []) dX12_dueOf_3 (c_X12_termOf l g h N p0 p2 p3) rfl km_X12_termOf (hm_X12_termOf) rfl (by decide) rfl (fun _ ee => g_X12_termOf ee) w_methodLink_RainCoverModel_355 w_instanceMethod_RainCoverModel_termOf__II_I w_selects_RainCoverModel_RainCoverModel_termOf__II_I_RainCoverModel_termOf__II_I ⟨⟨by decide, by decide⟩, ⟨by decide, by decide⟩⟩ (Nat.le_of_ble_eq_true rfl) (fun v1 => ?_)
  refine a_istore (lc2 := [(4, .int v1), (0, .ref p0), (1, .int p1), (2, .int p2), (3, .int p3)]) dX12_dueOf_6 (by decide) rfl ?_
  refine a_iload dX12_dueOf_8 0 rfl ?_
  refine a_iconst (v := (-1)) dX12_dueOf_10 (by decide) ?_
  refine a_icmp_ne 18 dX12_dueOf_11 (by decide) (fun c2 => ?_) (fun c2 => ?_)
  · refine a_iconst (v := 0) dX12_dueOf_14 (by decide) ?_
    refine a_goto 34 dX12_dueOf_15 (by decide) ?_
    exact a_iret dX12_dueOf_34 rfl rfl (by decide) (by decide)
  · refine a_aload_n dX12_dueOf_18 rfl 1 rfl ?_
    refine a_getr kc13 30 dX12_dueOf_19 (by decide) rfl w_fieldLink_RainCoverModel_91 (fun v3 => ?_)
    refine a_iload_n dX12_dueOf_22 rfl 3 rfl ?_
    refine a_iald dX12_dueOf_23 (fun v4 => ?_)
    refine a_aload_n dX12_dueOf_24 rfl 1 rfl ?_
    refine a_iload_n dX12_dueOf_25 rfl 2 rfl ?_
    refine a_iload_n dX12_dueOf_26 rfl 3 rfl ?_
    refine a_iload_n dX12_dueOf_27 rfl 4 rfl ?_
    refine a_iload dX12_dueOf_28 0 rfl ?_
    refine a_cV_Pi (r := p0) (ci := 13) (as := [.int p1, .int p2, .int p3, .int v1]) (st := [.int v4]) dX12_dueOf_30 (c_X12_farmPay l g h N p0 p1 p2 p3 v1) rfl km_X12_farmPay (hm_X12_farmPay) rfl (by decide) rfl (fun _ ee => g_X12_farmPay ee) w_methodLink_RainCoverModel_358 w_instanceMethod_RainCoverModel_farmPay__IIII_I w_selects_RainCoverModel_RainCoverModel_farmPay__IIII_I_RainCoverModel_farmPay__IIII_I ⟨⟨by decide, by decide⟩, ⟨by decide, by decide⟩⟩ (Nat.le_of_ble_eq_true rfl) (fun v5 => ?_)
    refine a_imul dX12_dueOf_33 ?_
    exact a_iret dX12_dueOf_34 rfl rfl (by decide) (by decide)
theorem dX12_due_0 : decode cX12_due 0 = .ok (.aload_n 0, 1) := by decide +kernel
theorem dX12_due_1 : decode cX12_due 1 = .ok (.iload_n 1, 1) := by decide +kernel
theorem dX12_due_2 : decode cX12_due 2 = .ok (.invokevirtual 346, 3) := by decide +kernel
theorem dX12_due_5 : decode cX12_due 5 = .ok (.ifCond .eq 28, 3) := by decide +kernel
theorem dX12_due_8 : decode cX12_due 8 = .ok (.iload_n 2, 1) := by decide +kernel
theorem dX12_due_9 : decode cX12_due 9 = .ok (.invokestatic 221, 3) := by decide +kernel
theorem dX12_due_12 : decode cX12_due 12 = .ok (.ifCond .eq 21, 3) := by decide +kernel
theorem dX12_due_15 : decode cX12_due 15 = .ok (.iload_n 3, 1) := by decide +kernel
theorem dX12_due_16 : decode cX12_due 16 = .ok (.ifCond .lt 17, 3) := by decide +kernel
theorem dX12_due_19 : decode cX12_due 19 = .ok (.aload_n 0, 1) := by decide +kernel
theorem dX12_due_20 : decode cX12_due 20 = .ok (.aload_n 0, 1) := by decide +kernel
theorem dX12_due_21 : decode cX12_due 21 = .ok (.iload_n 3, 1) := by decide +kernel
theorem dX12_due_22 : decode cX12_due 22 = .ok (.invokevirtual 242, 3) := by decide +kernel
theorem dX12_due_25 : decode cX12_due 25 = .ok (.iload_n 1, 1) := by decide +kernel
theorem dX12_due_26 : decode cX12_due 26 = .ok (.iload_n 2, 1) := by decide +kernel
theorem dX12_due_27 : decode cX12_due 27 = .ok (.invokevirtual 361, 3) := by decide +kernel
theorem dX12_due_30 : decode cX12_due 30 = .ok (.goto 5, 3) := by decide +kernel
theorem dX12_due_33 : decode cX12_due 33 = .ok (.bipush (-5), 2) := by decide +kernel
theorem dX12_due_35 : decode cX12_due 35 = .ok (.ireturn, 1) := by decide +kernel
abbrev M_X12_due : MI := (RX12, cX12_due, 4, (some .int), ({ frames := 9, cells := 0, slots := 0, locals := 228 } : Room), 0, 0, false)
def f_X12_due (h0 : AH) (N : Nat) (p0 : Nat) (p1 : Int32) (p2 : Int32) (p3 : Int32) : Option (Int32 × AH) := if kd h0 p0 = 13 + 1 then (f_X12_isFarm h0 p0 p1).bind fun v1 => (if v1 = 0 then some ((-5), h0) else (f_X12_isSeason h0 p2).bind fun v3 => (if v3 = 0 then some ((-5), h0) else (if p3 < 0 then some ((-5), h0) else (f_X12_known h0 N p0 p3).bind fun q6 => (f_X12_dueOf q6.2 N p0 q6.1 p1 p2).bind fun v7 => some (v7, q6.2)))) else none
theorem g_X12_due {h0 : AH} {N : Nat} {p0 : Nat} {p1 : Int32} {p2 : Int32} {p3 : Int32} {x : (Int32 × AH)} (e : f_X12_due h0 N p0 p1 p2 p3 = some x) : kd h0 p0 = 13 + 1 := by
  unfold f_X12_due at e
  by_cases hk : kd h0 p0 = 13 + 1
  · exact hk
  · rw [if_neg hk] at e
    cases e
theorem km_X12_due : KM yX12_due M_X12_due 3 := ⟨in_tb 1656 (by decide +kernel) rfl, in_tb 9 (by decide +kernel) rfl, by decide +kernel, rfl, rfl⟩
theorem hm_X12_due : M_X12_due.2.2.2.2.2.1 = 0 ∧ M_X12_due.2.2.2.2.2.2.1 = 0 := ⟨rfl, rfl⟩
section
variable {l : Launch} {g : GG}
end
set_option maxRecDepth 100000 in
set_option maxHeartbeats 4000000 in
theorem c_X12_due (l : Launch) (g : GG) (h0 : AH) (N : Nat) (p0 : Nat) (p1 : Int32) (p2 : Int32) (p3 : Int32) : CN l g yX12_due M_X12_due false [.ref p0, .int p1, .int p2, .int p3] h0 rSi (f_X12_due h0 N p0 p1 p2 p3) := by
  refine CN.of (by decide) rfl (fun hh => by first | rfl | cases hh) (Nat.le_of_ble_eq_true rfl) ?_
  unfold f_X12_due
  refine a_gd (fun hkd => ?_)
  refine a_aload_n dX12_due_0 rfl 0 rfl ?_
  refine a_iload_n dX12_due_1 rfl 1 rfl ?_
  refine a_cV_Pi (r := p0) (ci := 13) (as := [.int p1]) (st := []) dX12_due_2 (c_X12_isFarm l g h0 p0 p1) rfl km_X12_isFarm (hm_X12_isFarm) rfl (by decide) rfl (fun _ ee => g_X12_isFarm ee) w_methodLink_RainCoverModel_346 w_instanceMethod_RainCoverModel_isFarm__I_Z w_selects_RainCoverModel_RainCoverModel_isFarm__I_Z_RainCoverModel_isFarm__I_Z ⟨⟨by decide, by decide⟩, ⟨by decide, by decide⟩⟩ (Nat.le_of_ble_eq_true rfl) (fun v1 => ?_)
  refine a_if_eq 33 dX12_due_5 (by decide) (fun c2 => ?_) (fun c2 => ?_)
  · refine a_bipush (v := (-5)) dX12_due_33 (by decide) ?_
    exact a_iret dX12_due_35 rfl rfl (by decide) (by decide)
  · refine a_iload_n dX12_due_8 rfl 2 rfl ?_
    refine a_cS_Pi (as := [.int p2]) (st := []) dX12_due_9 (c_X12_isSeason l g h0 p2) rfl km_X12_isSeason (hm_X12_isSeason) w_methodLink_RainCoverModel_221 w_static_RainCoverModel_isSeason__I_Z ⟨⟨by decide, by decide⟩, ⟨by decide, by decide⟩⟩ (Nat.le_of_ble_eq_true rfl) (fun v3 => ?_)
    refine a_if_eq 33 dX12_due_12 (by decide) (fun c4 => ?_) (fun c4 => ?_)
    · refine a_bipush (v := (-5)) dX12_due_33 (by decide) ?_
      exact a_iret dX12_due_35 rfl rfl (by decide) (by decide)
    · refine a_iload_n dX12_due_15 rfl 3 rfl ?_
      refine a_if_lt 33 dX12_due_16 (by decide) (fun c5 => ?_) (fun c5 => ?_)
      · refine a_bipush (v := (-5)) dX12_due_33 (by decide) ?_
        exact a_iret dX12_due_35 rfl rfl (by decide) (by decide)
      · refine a_aload_n dX12_due_19 rfl 0 rfl ?_
        refine a_aload_n dX12_due_20 rfl 0 rfl ?_
        refine a_iload_n dX12_due_21 rfl 3 rfl ?_
        refine a_cV_Si (r := p0) (ci := 13) (as := [.int p3]) (st := [.ref p0]) dX12_due_22 (c_X12_known l g h0 N p0 p3) rfl km_X12_known (hm_X12_known) rfl (by decide) rfl (fun _ ee => g_X12_known ee) w_methodLink_RainCoverModel_242 w_instanceMethod_RainCoverModel_known__I_I w_selects_RainCoverModel_RainCoverModel_known__I_I_RainCoverModel_known__I_I ⟨⟨by decide, by decide⟩, ⟨by decide, by decide⟩⟩ (Nat.le_of_ble_eq_true rfl) (fun q6 => ?_)
        refine a_iload_n dX12_due_25 rfl 1 rfl ?_
        refine a_iload_n dX12_due_26 rfl 2 rfl ?_
        refine a_cV_Pi (r := p0) (ci := 13) (as := [.int q6.1, .int p1, .int p2]) (st := []) dX12_due_27 (c_X12_dueOf l g q6.2 N p0 q6.1 p1 p2) rfl km_X12_dueOf (hm_X12_dueOf) rfl (by decide) rfl (fun _ ee => g_X12_dueOf ee) w_methodLink_RainCoverModel_361 w_instanceMethod_RainCoverModel_dueOf__III_I w_selects_RainCoverModel_RainCoverModel_dueOf__III_I_RainCoverModel_dueOf__III_I ⟨⟨by decide, by decide⟩, ⟨by decide, by decide⟩⟩ (Nat.le_of_ble_eq_true rfl) (fun v7 => ?_)
        refine a_goto 35 dX12_due_30 (by decide) ?_
        exact a_iret dX12_due_35 rfl rfl (by decide) (by decide)
theorem dX12_line_0 : decode cX12_line 0 = .ok (.iload_n 1, 1) := by decide +kernel
theorem dX12_line_1 : decode cX12_line 1 = .ok (.invokestatic 221, 3) := by decide +kernel
theorem dX12_line_4 : decode cX12_line 4 = .ok (.ifCond .eq 12, 3) := by decide +kernel
theorem dX12_line_7 : decode cX12_line 7 = .ok (.iload_n 3, 1) := by decide +kernel
theorem dX12_line_8 : decode cX12_line 8 = .ok (.iconst 0, 1) := by decide +kernel
theorem dX12_line_9 : decode cX12_line 9 = .ok (.iconst 2, 1) := by decide +kernel
theorem dX12_line_10 : decode cX12_line 10 = .ok (.invokestatic 204, 3) := by decide +kernel
theorem dX12_line_13 : decode cX12_line 13 = .ok (.ifCond .ne 5, 3) := by decide +kernel
theorem dX12_line_16 : decode cX12_line 16 = .ok (.iconst (-1), 1) := by decide +kernel
theorem dX12_line_17 : decode cX12_line 17 = .ok (.ireturn, 1) := by decide +kernel
theorem dX12_line_18 : decode cX12_line 18 = .ok (.iload_n 2, 1) := by decide +kernel
theorem dX12_line_19 : decode cX12_line 19 = .ok (.iconst 0, 1) := by decide +kernel
theorem dX12_line_20 : decode cX12_line 20 = .ok (.sipush 198, 3) := by decide +kernel
theorem dX12_line_23 : decode cX12_line 23 = .ok (.invokestatic 204, 3) := by decide +kernel
theorem dX12_line_26 : decode cX12_line 26 = .ok (.ifCond .ne 6, 3) := by decide +kernel
theorem dX12_line_29 : decode cX12_line 29 = .ok (.bipush (-2), 2) := by decide +kernel
theorem dX12_line_31 : decode cX12_line 31 = .ok (.ireturn, 1) := by decide +kernel
theorem dX12_line_32 : decode cX12_line 32 = .ok (.iconst 0, 1) := by decide +kernel
theorem dX12_line_33 : decode cX12_line 33 = .ok (.istore 4, 2) := by decide +kernel
theorem dX12_line_35 : decode cX12_line 35 = .ok (.iconst (-1), 1) := by decide +kernel
theorem dX12_line_36 : decode cX12_line 36 = .ok (.istore 5, 2) := by decide +kernel
theorem dX12_line_38 : decode cX12_line 38 = .ok (.iconst 0, 1) := by decide +kernel
theorem dX12_line_39 : decode cX12_line 39 = .ok (.istore 6, 2) := by decide +kernel
theorem dX12_line_41 : decode cX12_line 41 = .ok (.iload 6, 2) := by decide +kernel
theorem dX12_line_43 : decode cX12_line 43 = .ok (.aload_n 0, 1) := by decide +kernel
theorem dX12_line_44 : decode cX12_line 44 = .ok (.getfield 214, 3) := by decide +kernel
theorem dX12_line_47 : decode cX12_line 47 = .ok (.if_icmp .ge 166, 3) := by decide +kernel
theorem dX12_line_50 : decode cX12_line 50 = .ok (.iload 6, 2) := by decide +kernel
theorem dX12_line_52 : decode cX12_line 52 = .ok (.iconst 1, 1) := by decide +kernel
theorem dX12_line_53 : decode cX12_line 53 = .ok (.iadd, 1) := by decide +kernel
theorem dX12_line_54 : decode cX12_line 54 = .ok (.istore 7, 2) := by decide +kernel
theorem dX12_line_56 : decode cX12_line 56 = .ok (.iload 7, 2) := by decide +kernel
theorem dX12_line_58 : decode cX12_line 58 = .ok (.aload_n 0, 1) := by decide +kernel
theorem dX12_line_59 : decode cX12_line 59 = .ok (.getfield 214, 3) := by decide +kernel
theorem dX12_line_62 : decode cX12_line 62 = .ok (.if_icmp .ge 145, 3) := by decide +kernel
theorem dX12_line_65 : decode cX12_line 65 = .ok (.aload_n 0, 1) := by decide +kernel
theorem dX12_line_66 : decode cX12_line 66 = .ok (.iload 6, 2) := by decide +kernel
theorem dX12_line_68 : decode cX12_line 68 = .ok (.iload_n 1, 1) := by decide +kernel
theorem dX12_line_69 : decode cX12_line 69 = .ok (.invokevirtual 355, 3) := by decide +kernel
theorem dX12_line_72 : decode cX12_line 72 = .ok (.istore 8, 2) := by decide +kernel
theorem dX12_line_74 : decode cX12_line 74 = .ok (.aload_n 0, 1) := by decide +kernel
theorem dX12_line_75 : decode cX12_line 75 = .ok (.iload 6, 2) := by decide +kernel
theorem dX12_line_77 : decode cX12_line 77 = .ok (.iload_n 1, 1) := by decide +kernel
theorem dX12_line_78 : decode cX12_line 78 = .ok (.invokevirtual 349, 3) := by decide +kernel
theorem dX12_line_81 : decode cX12_line 81 = .ok (.istore 9, 2) := by decide +kernel
theorem dX12_line_83 : decode cX12_line 83 = .ok (.iload 8, 2) := by decide +kernel
theorem dX12_line_85 : decode cX12_line 85 = .ok (.iconst (-1), 1) := by decide +kernel
theorem dX12_line_86 : decode cX12_line 86 = .ok (.if_icmp .eq 61, 3) := by decide +kernel
theorem dX12_line_89 : decode cX12_line 89 = .ok (.iload 8, 2) := by decide +kernel
theorem dX12_line_91 : decode cX12_line 91 = .ok (.aload_n 0, 1) := by decide +kernel
theorem dX12_line_92 : decode cX12_line 92 = .ok (.iload 7, 2) := by decide +kernel
theorem dX12_line_94 : decode cX12_line 94 = .ok (.iload_n 1, 1) := by decide +kernel
theorem dX12_line_95 : decode cX12_line 95 = .ok (.invokevirtual 355, 3) := by decide +kernel
theorem dX12_line_98 : decode cX12_line 98 = .ok (.if_icmp .ne 49, 3) := by decide +kernel
theorem dX12_line_101 : decode cX12_line 101 = .ok (.aload_n 0, 1) := by decide +kernel
theorem dX12_line_102 : decode cX12_line 102 = .ok (.iload 6, 2) := by decide +kernel
theorem dX12_line_104 : decode cX12_line 104 = .ok (.aload_n 0, 1) := by decide +kernel
theorem dX12_line_105 : decode cX12_line 105 = .ok (.getfield 82, 3) := by decide +kernel
theorem dX12_line_108 : decode cX12_line 108 = .ok (.iload 7, 2) := by decide +kernel
theorem dX12_line_110 : decode cX12_line 110 = .ok (.iaload, 1) := by decide +kernel
theorem dX12_line_111 : decode cX12_line 111 = .ok (.aload_n 0, 1) := by decide +kernel
theorem dX12_line_112 : decode cX12_line 112 = .ok (.getfield 85, 3) := by decide +kernel
theorem dX12_line_115 : decode cX12_line 115 = .ok (.iload 7, 2) := by decide +kernel
theorem dX12_line_117 : decode cX12_line 117 = .ok (.iaload, 1) := by decide +kernel
theorem dX12_line_118 : decode cX12_line 118 = .ok (.invokevirtual 334, 3) := by decide +kernel
theorem dX12_line_121 : decode cX12_line 121 = .ok (.iload_n 2, 1) := by decide +kernel
theorem dX12_line_122 : decode cX12_line 122 = .ok (.if_icmp .gt 25, 3) := by decide +kernel
theorem dX12_line_125 : decode cX12_line 125 = .ok (.iload 9, 2) := by decide +kernel
theorem dX12_line_127 : decode cX12_line 127 = .ok (.iconst (-1), 1) := by decide +kernel
theorem dX12_line_128 : decode cX12_line 128 = .ok (.if_icmp .eq 15, 3) := by decide +kernel
theorem dX12_line_131 : decode cX12_line 131 = .ok (.iload 9, 2) := by decide +kernel
theorem dX12_line_133 : decode cX12_line 133 = .ok (.aload_n 0, 1) := by decide +kernel
theorem dX12_line_134 : decode cX12_line 134 = .ok (.iload 7, 2) := by decide +kernel
theorem dX12_line_136 : decode cX12_line 136 = .ok (.iload_n 1, 1) := by decide +kernel
theorem dX12_line_137 : decode cX12_line 137 = .ok (.invokevirtual 349, 3) := by decide +kernel
theorem dX12_line_140 : decode cX12_line 140 = .ok (.if_icmp .eq 7, 3) := by decide +kernel
theorem dX12_line_143 : decode cX12_line 143 = .ok (.iconst 1, 1) := by decide +kernel
theorem dX12_line_144 : decode cX12_line 144 = .ok (.goto 4, 3) := by decide +kernel
theorem dX12_line_147 : decode cX12_line 147 = .ok (.iconst 0, 1) := by decide +kernel
theorem dX12_line_148 : decode cX12_line 148 = .ok (.istore 10, 2) := by decide +kernel
theorem dX12_line_150 : decode cX12_line 150 = .ok (.iload 10, 2) := by decide +kernel
theorem dX12_line_152 : decode cX12_line 152 = .ok (.ifCond .eq 49, 3) := by decide +kernel
theorem dX12_line_155 : decode cX12_line 155 = .ok (.aload_n 0, 1) := by decide +kernel
theorem dX12_line_156 : decode cX12_line 156 = .ok (.iconst 0, 1) := by decide +kernel
theorem dX12_line_157 : decode cX12_line 157 = .ok (.iload 6, 2) := by decide +kernel
theorem dX12_line_159 : decode cX12_line 159 = .ok (.iload_n 1, 1) := by decide +kernel
theorem dX12_line_160 : decode cX12_line 160 = .ok (.iload 8, 2) := by decide +kernel
theorem dX12_line_162 : decode cX12_line 162 = .ok (.invokevirtual 358, 3) := by decide +kernel
theorem dX12_line_165 : decode cX12_line 165 = .ok (.aload_n 0, 1) := by decide +kernel
theorem dX12_line_166 : decode cX12_line 166 = .ok (.iconst 0, 1) := by decide +kernel
theorem dX12_line_167 : decode cX12_line 167 = .ok (.iload 7, 2) := by decide +kernel
theorem dX12_line_169 : decode cX12_line 169 = .ok (.iload_n 1, 1) := by decide +kernel
theorem dX12_line_170 : decode cX12_line 170 = .ok (.iload 8, 2) := by decide +kernel
theorem dX12_line_172 : decode cX12_line 172 = .ok (.invokevirtual 358, 3) := by decide +kernel
theorem dX12_line_175 : decode cX12_line 175 = .ok (.if_icmp .eq 26, 3) := by decide +kernel
theorem dX12_line_178 : decode cX12_line 178 = .ok (.iload 4, 2) := by decide +kernel
theorem dX12_line_180 : decode cX12_line 180 = .ok (.ifCond .ne 14, 3) := by decide +kernel
theorem dX12_line_183 : decode cX12_line 183 = .ok (.bipush 24, 2) := by decide +kernel
theorem dX12_line_185 : decode cX12_line 185 = .ok (.iload 6, 2) := by decide +kernel
theorem dX12_line_187 : decode cX12_line 187 = .ok (.imul, 1) := by decide +kernel
theorem dX12_line_188 : decode cX12_line 188 = .ok (.iload 7, 2) := by decide +kernel
theorem dX12_line_190 : decode cX12_line 190 = .ok (.iadd, 1) := by decide +kernel
theorem dX12_line_191 : decode cX12_line 191 = .ok (.goto 5, 3) := by decide +kernel
theorem dX12_line_194 : decode cX12_line 194 = .ok (.iload 5, 2) := by decide +kernel
theorem dX12_line_196 : decode cX12_line 196 = .ok (.istore 5, 2) := by decide +kernel
theorem dX12_line_198 : decode cX12_line 198 = .ok (.iinc 4 1, 3) := by decide +kernel
theorem dX12_line_201 : decode cX12_line 201 = .ok (.iinc 7 1, 3) := by decide +kernel
theorem dX12_line_204 : decode cX12_line 204 = .ok (.goto (-148), 3) := by decide +kernel
theorem dX12_line_207 : decode cX12_line 207 = .ok (.iinc 6 1, 3) := by decide +kernel
theorem dX12_line_210 : decode cX12_line 210 = .ok (.goto (-169), 3) := by decide +kernel
theorem dX12_line_213 : decode cX12_line 213 = .ok (.iload_n 3, 1) := by decide +kernel
theorem dX12_line_214 : decode cX12_line 214 = .ok (.ifCond .ne 8, 3) := by decide +kernel
theorem dX12_line_217 : decode cX12_line 217 = .ok (.iload 4, 2) := by decide +kernel
theorem dX12_line_219 : decode cX12_line 219 = .ok (.goto 31, 3) := by decide +kernel
theorem dX12_line_222 : decode cX12_line 222 = .ok (.iload 5, 2) := by decide +kernel
theorem dX12_line_224 : decode cX12_line 224 = .ok (.iconst (-1), 1) := by decide +kernel
theorem dX12_line_225 : decode cX12_line 225 = .ok (.if_icmp .ne 7, 3) := by decide +kernel
theorem dX12_line_228 : decode cX12_line 228 = .ok (.iconst (-1), 1) := by decide +kernel
theorem dX12_line_229 : decode cX12_line 229 = .ok (.goto 21, 3) := by decide +kernel
theorem dX12_line_232 : decode cX12_line 232 = .ok (.iload_n 3, 1) := by decide +kernel
theorem dX12_line_233 : decode cX12_line 233 = .ok (.iconst 1, 1) := by decide +kernel
theorem dX12_line_234 : decode cX12_line 234 = .ok (.if_icmp .ne 11, 3) := by decide +kernel
theorem dX12_line_237 : decode cX12_line 237 = .ok (.iload 5, 2) := by decide +kernel
theorem dX12_line_239 : decode cX12_line 239 = .ok (.bipush 24, 2) := by decide +kernel
theorem dX12_line_241 : decode cX12_line 241 = .ok (.idiv, 1) := by decide +kernel
theorem dX12_line_242 : decode cX12_line 242 = .ok (.goto 8, 3) := by decide +kernel
theorem dX12_line_245 : decode cX12_line 245 = .ok (.iload 5, 2) := by decide +kernel
theorem dX12_line_247 : decode cX12_line 247 = .ok (.bipush 24, 2) := by decide +kernel
theorem dX12_line_249 : decode cX12_line 249 = .ok (.irem, 1) := by decide +kernel
theorem dX12_line_250 : decode cX12_line 250 = .ok (.ireturn, 1) := by decide +kernel
abbrev M_X12_line : MI := (RX12, cX12_line, 11, (some .int), ({ frames := 8, cells := 0, slots := 0, locals := 204 } : Room), 0, 0, false)
def f_X12_line_b201 (h : AH) (N : Nat) (K41 : Nat → Int32 → Int32 → Int32 → Int32 → Int32 → Int32 → Option Int32) (K56 : Nat → Int32 → Int32 → Int32 → Int32 → Int32 → Int32 → Int32 → Option Int32) (x0 : Nat) (x1 : Int32) (x2 : Int32) (x3 : Int32) (x4 : Int32) (x5 : Int32) (x6 : Int32) (x7 : Int32) : Option Int32 := K56 x0 x1 x2 x3 x4 x5 x6 (x7 + 1)
def f_X12_line_b196 (h : AH) (N : Nat) (K41 : Nat → Int32 → Int32 → Int32 → Int32 → Int32 → Int32 → Option Int32) (K56 : Nat → Int32 → Int32 → Int32 → Int32 → Int32 → Int32 → Int32 → Option Int32) (x0 : Nat) (x1 : Int32) (x2 : Int32) (x3 : Int32) (x4 : Int32) (x6 : Int32) (x7 : Int32) (s7 : Int32) : Option Int32 := f_X12_line_b201 h N K41 K56 x0 x1 x2 x3 (x4 + 1) s7 x6 x7
def f_X12_line_b148 (h : AH) (N : Nat) (K41 : Nat → Int32 → Int32 → Int32 → Int32 → Int32 → Int32 → Option Int32) (K56 : Nat → Int32 → Int32 → Int32 → Int32 → Int32 → Int32 → Int32 → Option Int32) (x0 : Nat) (x1 : Int32) (x2 : Int32) (x3 : Int32) (x4 : Int32) (x5 : Int32) (x6 : Int32) (x7 : Int32) (x8 : Int32) (s9 : Int32) : Option Int32 := (if s9 = 0 then f_X12_line_b201 h N K41 K56 x0 x1 x2 x3 x4 x5 x6 x7 else (f_X12_farmPay h N x0 0 x6 x1 x8).bind fun v31 => (f_X12_farmPay h N x0 0 x7 x1 x8).bind fun v32 => (if v31 = v32 then f_X12_line_b201 h N K41 K56 x0 x1 x2 x3 x4 x5 x6 x7 else (if x4 = 0 then f_X12_line_b196 h N K41 K56 x0 x1 x2 x3 x4 x6 x7 ((24 * x6) + x7) else f_X12_line_b196 h N K41 K56 x0 x1 x2 x3 x4 x6 x7 x5)))
def f_X12_line_b143 (h : AH) (N : Nat) (K41 : Nat → Int32 → Int32 → Int32 → Int32 → Int32 → Int32 → Option Int32) (K56 : Nat → Int32 → Int32 → Int32 → Int32 → Int32 → Int32 → Int32 → Option Int32) (x0 : Nat) (x1 : Int32) (x2 : Int32) (x3 : Int32) (x4 : Int32) (x5 : Int32) (x6 : Int32) (x7 : Int32) (x8 : Int32) : Option Int32 := f_X12_line_b148 h N K41 K56 x0 x1 x2 x3 x4 x5 x6 x7 x8 1
def f_X12_line_b147 (h : AH) (N : Nat) (K41 : Nat → Int32 → Int32 → Int32 → Int32 → Int32 → Int32 → Option Int32) (K56 : Nat → Int32 → Int32 → Int32 → Int32 → Int32 → Int32 → Int32 → Option Int32) (x0 : Nat) (x1 : Int32) (x2 : Int32) (x3 : Int32) (x4 : Int32) (x5 : Int32) (x6 : Int32) (x7 : Int32) (x8 : Int32) : Option Int32 := f_X12_line_b148 h N K41 K56 x0 x1 x2 x3 x4 x5 x6 x7 x8 0
def f_X12_line_b56_body (h : AH) (N : Nat) (K41 : Nat → Int32 → Int32 → Int32 → Int32 → Int32 → Int32 → Option Int32) (K56 : Nat → Int32 → Int32 → Int32 → Int32 → Int32 → Int32 → Int32 → Option Int32) (x0 : Nat) (x1 : Int32) (x2 : Int32) (x3 : Int32) (x4 : Int32) (x5 : Int32) (x6 : Int32) (x7 : Int32) : Option Int32 := (xgi h x0 13 26).bind fun v14 => (if v14 ≤ x7 then K41 x0 x1 x2 x3 x4 x5 (x6 + 1) else (f_X12_termOf h N x0 x6 x1).bind fun v16 => (f_X12_gaugeOf h N x0 x6 x1).bind fun v17 => (if v16 = (-1) then f_X12_line_b147 h N K41 K56 x0 x1 x2 x3 x4 x5 x6 x7 v16 else (f_X12_termOf h N x0 x7 x1).bind fun v19 => (if v16 = v19 then (xgr h x0 13 27).bind fun v21 => (xia h v21 x7).bind fun v22 => (xgr h x0 13 28).bind fun v23 => (xia h v23 x7).bind fun v24 => (f_X12_farFrom h x0 x6 v22 v24).bind fun v25 => (if x2 < v25 then f_X12_line_b147 h N K41 K56 x0 x1 x2 x3 x4 x5 x6 x7 v16 else (if v17 = (-1) then f_X12_line_b143 h N K41 K56 x0 x1 x2 x3 x4 x5 x6 x7 v16 else (f_X12_gaugeOf h N x0 x7 x1).bind fun v28 => (if v17 = v28 then f_X12_line_b147 h N K41 K56 x0 x1 x2 x3 x4 x5 x6 x7 v16 else f_X12_line_b143 h N K41 K56 x0 x1 x2 x3 x4 x5 x6 x7 v16))) else f_X12_line_b147 h N K41 K56 x0 x1 x2 x3 x4 x5 x6 x7 v16)))
def f_X12_line_b56 (h : AH) (N : Nat) (K41 : Nat → Int32 → Int32 → Int32 → Int32 → Int32 → Int32 → Option Int32) : Nat → Nat → Int32 → Int32 → Int32 → Int32 → Int32 → Int32 → Int32 → Option Int32
  | 0, _, _, _, _, _, _, _, _ => none
  | n + 1, x0, x1, x2, x3, x4, x5, x6, x7 => f_X12_line_b56_body h N K41 (f_X12_line_b56 h N K41 n) x0 x1 x2 x3 x4 x5 x6 x7
def f_X12_line_b41_body (h : AH) (N : Nat) (K41 : Nat → Int32 → Int32 → Int32 → Int32 → Int32 → Int32 → Option Int32) (x0 : Nat) (x1 : Int32) (x2 : Int32) (x3 : Int32) (x4 : Int32) (x5 : Int32) (x6 : Int32) : Option Int32 := (xgi h x0 13 26).bind fun v7 => (if v7 ≤ x6 then (if x3 = 0 then some x4 else (if x5 = (-1) then some (-1) else (if x3 = 1 then (if 24 = 0 then none else some (x5 / 24)) else (if 24 = 0 then none else some (x5 - x5 / 24 * 24))))) else f_X12_line_b56 h N K41 N x0 x1 x2 x3 x4 x5 x6 (x6 + 1))
def f_X12_line_b41 (h : AH) (N : Nat) : Nat → Nat → Int32 → Int32 → Int32 → Int32 → Int32 → Int32 → Option Int32
  | 0, _, _, _, _, _, _, _ => none
  | n + 1, x0, x1, x2, x3, x4, x5, x6 => f_X12_line_b41_body h N  (f_X12_line_b41 h N  n) x0 x1 x2 x3 x4 x5 x6
def f_X12_line (h : AH) (N : Nat) (p0 : Nat) (p1 : Int32) (p2 : Int32) (p3 : Int32) : Option Int32 := if kd h p0 = 13 + 1 then (f_X12_isSeason h p1).bind fun v1 => (if v1 = 0 then some (-1) else (f_X12_in h p3 0 2).bind fun v3 => (if v3 = 0 then some (-1) else (f_X12_in h p2 0 198).bind fun v5 => (if v5 = 0 then some (-2) else f_X12_line_b41 h N N p0 p1 p2 p3 0 (-1) 0))) else none
theorem g_X12_line {h : AH} {N : Nat} {p0 : Nat} {p1 : Int32} {p2 : Int32} {p3 : Int32} {x : Int32} (e : f_X12_line h N p0 p1 p2 p3 = some x) : kd h p0 = 13 + 1 := by
  unfold f_X12_line at e
  by_cases hk : kd h p0 = 13 + 1
  · exact hk
  · rw [if_neg hk] at e
    cases e
theorem km_X12_line : KM yX12_line M_X12_line 3 := ⟨in_tb 1664 (by decide +kernel) rfl, in_tb 9 (by decide +kernel) rfl, by decide +kernel, rfl, rfl⟩
theorem hm_X12_line : M_X12_line.2.2.2.2.2.1 = 0 ∧ M_X12_line.2.2.2.2.2.2.1 = 0 := ⟨rfl, rfl⟩
section
variable {l : Launch} {g : GG}
set_option maxRecDepth 100000 in
set_option maxHeartbeats 4000000 in
theorem t_X12_line_b201 (h : AH) (N : Nat) (K41 : Nat → Int32 → Int32 → Int32 → Int32 → Int32 → Int32 → Option Int32) (hK41 : ∀ (z0 : Nat) (z1 : Int32) (z2 : Int32) (z3 : Int32) (z4 : Int32) (z5 : Int32) (z6 : Int32), AO l g M_X12_line false h 41 [(0, .ref z0), (1, .int z1), (2, .int z2), (3, .int z3), (4, .int z4), (5, .int z5), (6, .int z6)] [] h 0 0 (rPi h) (K41 z0 z1 z2 z3 z4 z5 z6)) (K56 : Nat → Int32 → Int32 → Int32 → Int32 → Int32 → Int32 → Int32 → Option Int32) (hK56 : ∀ (z0 : Nat) (z1 : Int32) (z2 : Int32) (z3 : Int32) (z4 : Int32) (z5 : Int32) (z6 : Int32) (z7 : Int32), AO l g M_X12_line false h 56 [(0, .ref z0), (1, .int z1), (2, .int z2), (3, .int z3), (4, .int z4), (5, .int z5), (6, .int z6), (7, .int z7)] [] h 0 0 (rPi h) (K56 z0 z1 z2 z3 z4 z5 z6 z7)) (x0 : Nat) (x1 : Int32) (x2 : Int32) (x3 : Int32) (x4 : Int32) (x5 : Int32) (x6 : Int32) (x7 : Int32) : AO l g M_X12_line false h 201 [(0, .ref x0), (1, .int x1), (2, .int x2), (3, .int x3), (4, .int x4), (5, .int x5), (6, .int x6), (7, .int x7)] [] h 0 0 (rPi h) (f_X12_line_b201 h N K41 K56 x0 x1 x2 x3 x4 x5 x6 x7) := by
  unfold f_X12_line_b201
  refine a_iinc (q := 7) (v := (x7 + 1)) (lc2 := [(7, .int (x7 + 1)), (0, .ref x0), (1, .int x1), (2, .int x2), (3, .int x3), (4, .int x4), (5, .int x5), (6, .int x6)]) dX12_line_201 rfl rfl (by decide) rfl ?_
  refine a_goto 56 dX12_line_204 (by decide) ?_
  refine a_pick (lc2 := [(0, .ref x0), (1, .int x1), (2, .int x2), (3, .int x3), (4, .int x4), (5, .int x5), (6, .int x6), (7, .int (x7 + 1))]) [1, 2, 3, 4, 5, 6, 7, 0] rfl ?_
  exact hK56 x0 x1 x2 x3 x4 x5 x6 (x7 + 1)
set_option maxRecDepth 100000 in
set_option maxHeartbeats 4000000 in
theorem t_X12_line_b196 (h : AH) (N : Nat) (K41 : Nat → Int32 → Int32 → Int32 → Int32 → Int32 → Int32 → Option Int32) (hK41 : ∀ (z0 : Nat) (z1 : Int32) (z2 : Int32) (z3 : Int32) (z4 : Int32) (z5 : Int32) (z6 : Int32), AO l g M_X12_line false h 41 [(0, .ref z0), (1, .int z1), (2, .int z2), (3, .int z3), (4, .int z4), (5, .int z5), (6, .int z6)] [] h 0 0 (rPi h) (K41 z0 z1 z2 z3 z4 z5 z6)) (K56 : Nat → Int32 → Int32 → Int32 → Int32 → Int32 → Int32 → Int32 → Option Int32) (hK56 : ∀ (z0 : Nat) (z1 : Int32) (z2 : Int32) (z3 : Int32) (z4 : Int32) (z5 : Int32) (z6 : Int32) (z7 : Int32), AO l g M_X12_line false h 56 [(0, .ref z0), (1, .int z1), (2, .int z2), (3, .int z3), (4, .int z4), (5, .int z5), (6, .int z6), (7, .int z7)] [] h 0 0 (rPi h) (K56 z0 z1 z2 z3 z4 z5 z6 z7)) (x0 : Nat) (x1 : Int32) (x2 : Int32) (x3 : Int32) (x4 : Int32) (x6 : Int32) (x7 : Int32) (s7 : Int32) : AO l g M_X12_line false h 196 [(0, .ref x0), (1, .int x1), (2, .int x2), (3, .int x3), (4, .int x4), (6, .int x6), (7, .int x7)] [.int s7] h 0 0 (rPi h) (f_X12_line_b196 h N K41 K56 x0 x1 x2 x3 x4 x6 x7 s7) := by
  unfold f_X12_line_b196
  refine a_istore (lc2 := [(5, .int s7), (0, .ref x0), (1, .int x1), (2, .int x2), (3, .int x3), (4, .int x4), (6, .int x6), (7, .int x7)]) dX12_line_196 (by decide) rfl ?_
  refine a_iinc (q := 5) (v := (x4 + 1)) (lc2 := [(4, .int (x4 + 1)), (5, .int s7), (0, .ref x0), (1, .int x1), (2, .int x2), (3, .int x3), (6, .int x6), (7, .int x7)]) dX12_line_198 rfl rfl (by decide) rfl ?_
  refine a_pick (lc2 := [(0, .ref x0), (1, .int x1), (2, .int x2), (3, .int x3), (4, .int (x4 + 1)), (5, .int s7), (6, .int x6), (7, .int x7)]) [2, 3, 4, 5, 0, 1, 6, 7] rfl ?_
  exact t_X12_line_b201 h N K41 hK41 K56 hK56 x0 x1 x2 x3 (x4 + 1) s7 x6 x7
set_option maxRecDepth 100000 in
set_option maxHeartbeats 4000000 in
theorem t_X12_line_b148 (h : AH) (N : Nat) (K41 : Nat → Int32 → Int32 → Int32 → Int32 → Int32 → Int32 → Option Int32) (hK41 : ∀ (z0 : Nat) (z1 : Int32) (z2 : Int32) (z3 : Int32) (z4 : Int32) (z5 : Int32) (z6 : Int32), AO l g M_X12_line false h 41 [(0, .ref z0), (1, .int z1), (2, .int z2), (3, .int z3), (4, .int z4), (5, .int z5), (6, .int z6)] [] h 0 0 (rPi h) (K41 z0 z1 z2 z3 z4 z5 z6)) (K56 : Nat → Int32 → Int32 → Int32 → Int32 → Int32 → Int32 → Int32 → Option Int32) (hK56 : ∀ (z0 : Nat) (z1 : Int32) (z2 : Int32) (z3 : Int32) (z4 : Int32) (z5 : Int32) (z6 : Int32) (z7 : Int32), AO l g M_X12_line false h 56 [(0, .ref z0), (1, .int z1), (2, .int z2), (3, .int z3), (4, .int z4), (5, .int z5), (6, .int z6), (7, .int z7)] [] h 0 0 (rPi h) (K56 z0 z1 z2 z3 z4 z5 z6 z7)) (x0 : Nat) (x1 : Int32) (x2 : Int32) (x3 : Int32) (x4 : Int32) (x5 : Int32) (x6 : Int32) (x7 : Int32) (x8 : Int32) (s9 : Int32) : AO l g M_X12_line false h 148 [(0, .ref x0), (1, .int x1), (2, .int x2), (3, .int x3), (4, .int x4), (5, .int x5), (6, .int x6), (7, .int x7), (8, .int x8)] [.int s9] h 0 0 (rPi h) (f_X12_line_b148 h N K41 K56 x0 x1 x2 x3 x4 x5 x6 x7 x8 s9) := by
  unfold f_X12_line_b148
  refine a_istore (lc2 := [(10, .int s9), (0, .ref x0), (1, .int x1), (2, .int x2), (3, .int x3), (4, .int x4), (5, .int x5), (6, .int x6), (7, .int x7), (8, .int x8)]) dX12_line_148 (by decide) rfl ?_
  refine a_iload dX12_line_150 0 rfl ?_
  refine a_if_eq 201 dX12_line_152 (by decide) (fun c30 => ?_) (fun c30 => ?_)
  · refine a_pick (lc2 := [(0, .ref x0), (1, .int x1), (2, .int x2), (3, .int x3), (4, .int x4), (5, .int x5), (6, .int x6), (7, .int x7)]) [1, 2, 3, 4, 5, 6, 7, 8] rfl ?_
    exact t_X12_line_b201 h N K41 hK41 K56 hK56 x0 x1 x2 x3 x4 x5 x6 x7
  · refine a_aload_n dX12_line_155 rfl 1 rfl ?_
    refine a_iconst (v := 0) dX12_line_156 (by decide) ?_
    refine a_iload dX12_line_157 7 rfl ?_
    refine a_iload_n dX12_line_159 rfl 2 rfl ?_
    refine a_iload dX12_line_160 9 rfl ?_
    refine a_cV_Pi (r := x0) (ci := 13) (as := [.int 0, .int x6, .int x1, .int x8]) (st := []) dX12_line_162 (c_X12_farmPay l g h N x0 0 x6 x1 x8) rfl km_X12_farmPay (hm_X12_farmPay) rfl (by decide) rfl (fun _ ee => g_X12_farmPay ee) w_methodLink_RainCoverModel_358 w_instanceMethod_RainCoverModel_farmPay__IIII_I w_selects_RainCoverModel_RainCoverModel_farmPay__IIII_I_RainCoverModel_farmPay__IIII_I ⟨⟨by decide, by decide⟩, ⟨by decide, by decide⟩⟩ (Nat.le_of_ble_eq_true rfl) (fun v31 => ?_)
    refine a_aload_n dX12_line_165 rfl 1 rfl ?_
    refine a_iconst (v := 0) dX12_line_166 (by decide) ?_
    refine a_iload dX12_line_167 8 rfl ?_
    refine a_iload_n dX12_line_169 rfl 2 rfl ?_
    refine a_iload dX12_line_170 9 rfl ?_
    refine a_cV_Pi (r := x0) (ci := 13) (as := [.int 0, .int x7, .int x1, .int x8]) (st := [.int v31]) dX12_line_172 (c_X12_farmPay l g h N x0 0 x7 x1 x8) rfl km_X12_farmPay (hm_X12_farmPay) rfl (by decide) rfl (fun _ ee => g_X12_farmPay ee) w_methodLink_RainCoverModel_358 w_instanceMethod_RainCoverModel_farmPay__IIII_I w_selects_RainCoverModel_RainCoverModel_farmPay__IIII_I_RainCoverModel_farmPay__IIII_I ⟨⟨by decide, by decide⟩, ⟨by decide, by decide⟩⟩ (Nat.le_of_ble_eq_true rfl) (fun v32 => ?_)
    refine a_icmp_eq 201 dX12_line_175 (by decide) (fun c33 => ?_) (fun c33 => ?_)
    · refine a_pick (lc2 := [(0, .ref x0), (1, .int x1), (2, .int x2), (3, .int x3), (4, .int x4), (5, .int x5), (6, .int x6), (7, .int x7)]) [1, 2, 3, 4, 5, 6, 7, 8] rfl ?_
      exact t_X12_line_b201 h N K41 hK41 K56 hK56 x0 x1 x2 x3 x4 x5 x6 x7
    · refine a_iload dX12_line_178 5 rfl ?_
      refine a_if_ne 194 dX12_line_180 (by decide) (fun c34 => ?_) (fun c34 => ?_)
      · refine a_bipush (v := 24) dX12_line_183 (by decide) ?_
        refine a_iload dX12_line_185 7 rfl ?_
        refine a_imul dX12_line_187 ?_
        refine a_iload dX12_line_188 8 rfl ?_
        refine a_iadd dX12_line_190 ?_
        refine a_goto 196 dX12_line_191 (by decide) ?_
        refine a_pick (lc2 := [(0, .ref x0), (1, .int x1), (2, .int x2), (3, .int x3), (4, .int x4), (6, .int x6), (7, .int x7)]) [1, 2, 3, 4, 5, 7, 8] rfl ?_
        exact t_X12_line_b196 h N K41 hK41 K56 hK56 x0 x1 x2 x3 x4 x6 x7 ((24 * x6) + x7)
      · refine a_iload dX12_line_194 6 rfl ?_
        refine a_pick (lc2 := [(0, .ref x0), (1, .int x1), (2, .int x2), (3, .int x3), (4, .int x4), (6, .int x6), (7, .int x7)]) [1, 2, 3, 4, 5, 7, 8] rfl ?_
        exact t_X12_line_b196 h N K41 hK41 K56 hK56 x0 x1 x2 x3 x4 x6 x7 x5
set_option maxRecDepth 100000 in
set_option maxHeartbeats 4000000 in
theorem t_X12_line_b143 (h : AH) (N : Nat) (K41 : Nat → Int32 → Int32 → Int32 → Int32 → Int32 → Int32 → Option Int32) (hK41 : ∀ (z0 : Nat) (z1 : Int32) (z2 : Int32) (z3 : Int32) (z4 : Int32) (z5 : Int32) (z6 : Int32), AO l g M_X12_line false h 41 [(0, .ref z0), (1, .int z1), (2, .int z2), (3, .int z3), (4, .int z4), (5, .int z5), (6, .int z6)] [] h 0 0 (rPi h) (K41 z0 z1 z2 z3 z4 z5 z6)) (K56 : Nat → Int32 → Int32 → Int32 → Int32 → Int32 → Int32 → Int32 → Option Int32) (hK56 : ∀ (z0 : Nat) (z1 : Int32) (z2 : Int32) (z3 : Int32) (z4 : Int32) (z5 : Int32) (z6 : Int32) (z7 : Int32), AO l g M_X12_line false h 56 [(0, .ref z0), (1, .int z1), (2, .int z2), (3, .int z3), (4, .int z4), (5, .int z5), (6, .int z6), (7, .int z7)] [] h 0 0 (rPi h) (K56 z0 z1 z2 z3 z4 z5 z6 z7)) (x0 : Nat) (x1 : Int32) (x2 : Int32) (x3 : Int32) (x4 : Int32) (x5 : Int32) (x6 : Int32) (x7 : Int32) (x8 : Int32) : AO l g M_X12_line false h 143 [(0, .ref x0), (1, .int x1), (2, .int x2), (3, .int x3), (4, .int x4), (5, .int x5), (6, .int x6), (7, .int x7), (8, .int x8)] [] h 0 0 (rPi h) (f_X12_line_b143 h N K41 K56 x0 x1 x2 x3 x4 x5 x6 x7 x8) := by
  unfold f_X12_line_b143
  refine a_iconst (v := 1) dX12_line_143 (by decide) ?_
  refine a_goto 148 dX12_line_144 (by decide) ?_
  exact t_X12_line_b148 h N K41 hK41 K56 hK56 x0 x1 x2 x3 x4 x5 x6 x7 x8 1
set_option maxRecDepth 100000 in
set_option maxHeartbeats 4000000 in
theorem t_X12_line_b147 (h : AH) (N : Nat) (K41 : Nat → Int32 → Int32 → Int32 → Int32 → Int32 → Int32 → Option Int32) (hK41 : ∀ (z0 : Nat) (z1 : Int32) (z2 : Int32) (z3 : Int32) (z4 : Int32) (z5 : Int32) (z6 : Int32), AO l g M_X12_line false h 41 [(0, .ref z0), (1, .int z1), (2, .int z2), (3, .int z3), (4, .int z4), (5, .int z5), (6, .int z6)] [] h 0 0 (rPi h) (K41 z0 z1 z2 z3 z4 z5 z6)) (K56 : Nat → Int32 → Int32 → Int32 → Int32 → Int32 → Int32 → Int32 → Option Int32) (hK56 : ∀ (z0 : Nat) (z1 : Int32) (z2 : Int32) (z3 : Int32) (z4 : Int32) (z5 : Int32) (z6 : Int32) (z7 : Int32), AO l g M_X12_line false h 56 [(0, .ref z0), (1, .int z1), (2, .int z2), (3, .int z3), (4, .int z4), (5, .int z5), (6, .int z6), (7, .int z7)] [] h 0 0 (rPi h) (K56 z0 z1 z2 z3 z4 z5 z6 z7)) (x0 : Nat) (x1 : Int32) (x2 : Int32) (x3 : Int32) (x4 : Int32) (x5 : Int32) (x6 : Int32) (x7 : Int32) (x8 : Int32) : AO l g M_X12_line false h 147 [(0, .ref x0), (1, .int x1), (2, .int x2), (3, .int x3), (4, .int x4), (5, .int x5), (6, .int x6), (7, .int x7), (8, .int x8)] [] h 0 0 (rPi h) (f_X12_line_b147 h N K41 K56 x0 x1 x2 x3 x4 x5 x6 x7 x8) := by
  unfold f_X12_line_b147
  refine a_iconst (v := 0) dX12_line_147 (by decide) ?_
  exact t_X12_line_b148 h N K41 hK41 K56 hK56 x0 x1 x2 x3 x4 x5 x6 x7 x8 0
set_option maxRecDepth 100000 in
set_option maxHeartbeats 4000000 in
theorem t_X12_line_b56_body (h : AH) (N : Nat) (K41 : Nat → Int32 → Int32 → Int32 → Int32 → Int32 → Int32 → Option Int32) (hK41 : ∀ (z0 : Nat) (z1 : Int32) (z2 : Int32) (z3 : Int32) (z4 : Int32) (z5 : Int32) (z6 : Int32), AO l g M_X12_line false h 41 [(0, .ref z0), (1, .int z1), (2, .int z2), (3, .int z3), (4, .int z4), (5, .int z5), (6, .int z6)] [] h 0 0 (rPi h) (K41 z0 z1 z2 z3 z4 z5 z6)) (K56 : Nat → Int32 → Int32 → Int32 → Int32 → Int32 → Int32 → Int32 → Option Int32) (hK56 : ∀ (z0 : Nat) (z1 : Int32) (z2 : Int32) (z3 : Int32) (z4 : Int32) (z5 : Int32) (z6 : Int32) (z7 : Int32), AO l g M_X12_line false h 56 [(0, .ref z0), (1, .int z1), (2, .int z2), (3, .int z3), (4, .int z4), (5, .int z5), (6, .int z6), (7, .int z7)] [] h 0 0 (rPi h) (K56 z0 z1 z2 z3 z4 z5 z6 z7)) (x0 : Nat) (x1 : Int32) (x2 : Int32) (x3 : Int32) (x4 : Int32) (x5 : Int32) (x6 : Int32) (x7 : Int32) : AO l g M_X12_line false h 56 [(0, .ref x0), (1, .int x1), (2, .int x2), (3, .int x3), (4, .int x4), (5, .int x5), (6, .int x6), (7, .int x7)] [] h 0 0 (rPi h) (f_X12_line_b56_body h N K41 K56 x0 x1 x2 x3 x4 x5 x6 x7) := by
  unfold f_X12_line_b56_body
  refine a_iload dX12_line_56 7 rfl ?_
  refine a_aload_n dX12_line_58 rfl 0 rfl ?_
  refine a_geti kc13 26 dX12_line_59 (by decide) rfl w_fieldLink_RainCoverModel_214 (fun v14 => ?_)
  refine a_icmp_ge 207 dX12_line_62 (by decide) (fun c15 => ?_) (fun c15 => ?_)
  · refine a_iinc (q := 6) (v := (x6 + 1)) (lc2 := [(6, .int (x6 + 1)), (0, .ref x0), (1, .int x1), (2, .int x2), (3, .int x3), (4, .int x4), (5, .int x5), (7, .int x7)]) dX12_line_207 rfl rfl (by decide) rfl ?_
    refine a_goto 41 dX12_line_210 (by decide) ?_
    refine a_pick (lc2 := [(0, .ref x0), (1, .int x1), (2, .int x2), (3, .int x3), (4, .int x4), (5, .int x5), (6, .int (x6 + 1))]) [1, 2, 3, 4, 5, 6, 0] rfl ?_
    exact hK41 x0 x1 x2 x3 x4 x5 (x6 + 1)
  · refine a_aload_n dX12_line_65 rfl 0 rfl ?_
    refine a_iload dX12_line_66 6 rfl ?_
    refine a_iload_n dX12_line_68 rfl 1 rfl ?_
    refine a_cV_Pi (r := x0) (ci := 13) (as := [.int x6, .int x1]) (st := []) dX12_line_69 (c_X12_termOf l g h N x0 x6 x1) rfl km_X12_termOf (hm_X12_termOf) rfl (by decide) rfl (fun _ ee => g_X12_termOf ee) w_methodLink_RainCoverModel_355 w_instanceMethod_RainCoverModel_termOf__II_I w_selects_RainCoverModel_RainCoverModel_termOf__II_I_RainCoverModel_termOf__II_I ⟨⟨by decide, by decide⟩, ⟨by decide, by decide⟩⟩ (Nat.le_of_ble_eq_true rfl) (fun v16 => ?_)
    refine a_istore (lc2 := [(8, .int v16), (0, .ref x0), (1, .int x1), (2, .int x2), (3, .int x3), (4, .int x4), (5, .int x5), (6, .int x6), (7, .int x7)]) dX12_line_72 (by decide) rfl ?_
    refine a_aload_n dX12_line_74 rfl 1 rfl ?_
    refine a_iload dX12_line_75 7 rfl ?_
    refine a_iload_n dX12_line_77 rfl 2 rfl ?_
    refine a_cV_Pi (r := x0) (ci := 13) (as := [.int x6, .int x1]) (st := []) dX12_line_78 (c_X12_gaugeOf l g h N x0 x6 x1) rfl km_X12_gaugeOf (hm_X12_gaugeOf) rfl (by decide) rfl (fun _ ee => g_X12_gaugeOf ee) w_methodLink_RainCoverModel_349 w_instanceMethod_RainCoverModel_gaugeOf__II_I w_selects_RainCoverModel_RainCoverModel_gaugeOf__II_I_RainCoverModel_gaugeOf__II_I ⟨⟨by decide, by decide⟩, ⟨by decide, by decide⟩⟩ (Nat.le_of_ble_eq_true rfl) (fun v17 => ?_)
    refine a_istore (lc2 := [(9, .int v17), (8, .int v16), (0, .ref x0), (1, .int x1), (2, .int x2), (3, .int x3), (4, .int x4), (5, .int x5), (6, .int x6), (7, .int x7)]) dX12_line_81 (by decide) rfl ?_
    refine a_iload dX12_line_83 1 rfl ?_
    refine a_iconst (v := (-1)) dX12_line_85 (by decide) ?_
    refine a_icmp_eq 147 dX12_line_86 (by decide) (fun c18 => ?_) (fun c18 => ?_)
    · refine a_pick (lc2 := [(0, .ref x0), (1, .int x1), (2, .int x2), (3, .int x3), (4, .int x4), (5, .int x5), (6, .int x6), (7, .int x7), (8, .int v16)]) [2, 3, 4, 5, 6, 7, 8, 9, 1] rfl ?_
      exact t_X12_line_b147 h N K41 hK41 K56 hK56 x0 x1 x2 x3 x4 x5 x6 x7 v16
    · refine a_iload dX12_line_89 1 rfl ?_
      refine a_aload_n dX12_line_91 rfl 2 rfl ?_
      refine a_iload dX12_line_92 9 rfl ?_
      refine a_iload_n dX12_line_94 rfl 3 rfl ?_
      refine a_cV_Pi (r := x0) (ci := 13) (as := [.int x7, .int x1]) (st := [.int v16]) dX12_line_95 (c_X12_termOf l g h N x0 x7 x1) rfl km_X12_termOf (hm_X12_termOf) rfl (by decide) rfl (fun _ ee => g_X12_termOf ee) w_methodLink_RainCoverModel_355 w_instanceMethod_RainCoverModel_termOf__II_I w_selects_RainCoverModel_RainCoverModel_termOf__II_I_RainCoverModel_termOf__II_I ⟨⟨by decide, by decide⟩, ⟨by decide, by decide⟩⟩ (Nat.le_of_ble_eq_true rfl) (fun v19 => ?_)
      refine a_icmp_ne 147 dX12_line_98 (by decide) (fun c20 => ?_) (fun c20 => ?_)
      · refine a_aload_n dX12_line_101 rfl 2 rfl ?_
        refine a_iload dX12_line_102 8 rfl ?_
        refine a_aload_n dX12_line_104 rfl 2 rfl ?_
        refine a_getr kc13 27 dX12_line_105 (by decide) rfl w_fieldLink_RainCoverModel_82 (fun v21 => ?_)
        refine a_iload dX12_line_108 9 rfl ?_
        refine a_iald dX12_line_110 (fun v22 => ?_)
        refine a_aload_n dX12_line_111 rfl 2 rfl ?_
        refine a_getr kc13 28 dX12_line_112 (by decide) rfl w_fieldLink_RainCoverModel_85 (fun v23 => ?_)
        refine a_iload dX12_line_115 9 rfl ?_
        refine a_iald dX12_line_117 (fun v24 => ?_)
        refine a_cV_Pi (r := x0) (ci := 13) (as := [.int x6, .int v22, .int v24]) (st := []) dX12_line_118 (c_X12_farFrom l g h x0 x6 v22 v24) rfl km_X12_farFrom (hm_X12_farFrom) rfl (by decide) rfl (fun _ ee => g_X12_farFrom ee) w_methodLink_RainCoverModel_334 w_instanceMethod_RainCoverModel_farFrom__III_I w_selects_RainCoverModel_RainCoverModel_farFrom__III_I_RainCoverModel_farFrom__III_I ⟨⟨by decide, by decide⟩, ⟨by decide, by decide⟩⟩ (Nat.le_of_ble_eq_true rfl) (fun v25 => ?_)
        refine a_iload_n dX12_line_121 rfl 4 rfl ?_
        refine a_icmp_gt 147 dX12_line_122 (by decide) (fun c26 => ?_) (fun c26 => ?_)
        · refine a_pick (lc2 := [(0, .ref x0), (1, .int x1), (2, .int x2), (3, .int x3), (4, .int x4), (5, .int x5), (6, .int x6), (7, .int x7), (8, .int v16)]) [2, 3, 4, 5, 6, 7, 8, 9, 1] rfl ?_
          exact t_X12_line_b147 h N K41 hK41 K56 hK56 x0 x1 x2 x3 x4 x5 x6 x7 v16
        · refine a_iload dX12_line_125 0 rfl ?_
          refine a_iconst (v := (-1)) dX12_line_127 (by decide) ?_
          refine a_icmp_eq 143 dX12_line_128 (by decide) (fun c27 => ?_) (fun c27 => ?_)
          · refine a_pick (lc2 := [(0, .ref x0), (1, .int x1), (2, .int x2), (3, .int x3), (4, .int x4), (5, .int x5), (6, .int x6), (7, .int x7), (8, .int v16)]) [2, 3, 4, 5, 6, 7, 8, 9, 1] rfl ?_
            exact t_X12_line_b143 h N K41 hK41 K56 hK56 x0 x1 x2 x3 x4 x5 x6 x7 v16
          · refine a_iload dX12_line_131 0 rfl ?_
            refine a_aload_n dX12_line_133 rfl 2 rfl ?_
            refine a_iload dX12_line_134 9 rfl ?_
            refine a_iload_n dX12_line_136 rfl 3 rfl ?_
            refine a_cV_Pi (r := x0) (ci := 13) (as := [.int x7, .int x1]) (st := [.int v17]) dX12_line_137 (c_X12_gaugeOf l g h N x0 x7 x1) rfl km_X12_gaugeOf (hm_X12_gaugeOf) rfl (by decide) rfl (fun _ ee => g_X12_gaugeOf ee) w_methodLink_RainCoverModel_349 w_instanceMethod_RainCoverModel_gaugeOf__II_I w_selects_RainCoverModel_RainCoverModel_gaugeOf__II_I_RainCoverModel_gaugeOf__II_I ⟨⟨by decide, by decide⟩, ⟨by decide, by decide⟩⟩ (Nat.le_of_ble_eq_true rfl) (fun v28 => ?_)
            refine a_icmp_eq 147 dX12_line_140 (by decide) (fun c29 => ?_) (fun c29 => ?_)
            · refine a_pick (lc2 := [(0, .ref x0), (1, .int x1), (2, .int x2), (3, .int x3), (4, .int x4), (5, .int x5), (6, .int x6), (7, .int x7), (8, .int v16)]) [2, 3, 4, 5, 6, 7, 8, 9, 1] rfl ?_
              exact t_X12_line_b147 h N K41 hK41 K56 hK56 x0 x1 x2 x3 x4 x5 x6 x7 v16
            · refine a_pick (lc2 := [(0, .ref x0), (1, .int x1), (2, .int x2), (3, .int x3), (4, .int x4), (5, .int x5), (6, .int x6), (7, .int x7), (8, .int v16)]) [2, 3, 4, 5, 6, 7, 8, 9, 1] rfl ?_
              exact t_X12_line_b143 h N K41 hK41 K56 hK56 x0 x1 x2 x3 x4 x5 x6 x7 v16
      · refine a_pick (lc2 := [(0, .ref x0), (1, .int x1), (2, .int x2), (3, .int x3), (4, .int x4), (5, .int x5), (6, .int x6), (7, .int x7), (8, .int v16)]) [2, 3, 4, 5, 6, 7, 8, 9, 1] rfl ?_
        exact t_X12_line_b147 h N K41 hK41 K56 hK56 x0 x1 x2 x3 x4 x5 x6 x7 v16
set_option maxRecDepth 100000 in
set_option maxHeartbeats 4000000 in
theorem t_X12_line_b56 (h : AH) (N : Nat) (K41 : Nat → Int32 → Int32 → Int32 → Int32 → Int32 → Int32 → Option Int32) (hK41 : ∀ (z0 : Nat) (z1 : Int32) (z2 : Int32) (z3 : Int32) (z4 : Int32) (z5 : Int32) (z6 : Int32), AO l g M_X12_line false h 41 [(0, .ref z0), (1, .int z1), (2, .int z2), (3, .int z3), (4, .int z4), (5, .int z5), (6, .int z6)] [] h 0 0 (rPi h) (K41 z0 z1 z2 z3 z4 z5 z6)) : ∀ (n : Nat) (x0 : Nat) (x1 : Int32) (x2 : Int32) (x3 : Int32) (x4 : Int32) (x5 : Int32) (x6 : Int32) (x7 : Int32) , AO l g M_X12_line false h 56 [(0, .ref x0), (1, .int x1), (2, .int x2), (3, .int x3), (4, .int x4), (5, .int x5), (6, .int x6), (7, .int x7)] [] h 0 0 (rPi h) (f_X12_line_b56 h N K41 n x0 x1 x2 x3 x4 x5 x6 x7) := by
  intro n
  induction n with
  | zero => intro x0 x1 x2 x3 x4 x5 x6 x7; exact a_eq rfl a_none
  | succ n ih => intro x0 x1 x2 x3 x4 x5 x6 x7; exact a_eq rfl (t_X12_line_b56_body h N (K41) (hK41) (f_X12_line_b56 h N K41 n) ih x0 x1 x2 x3 x4 x5 x6 x7)
set_option maxRecDepth 100000 in
set_option maxHeartbeats 4000000 in
theorem t_X12_line_b41_body (h : AH) (N : Nat) (K41 : Nat → Int32 → Int32 → Int32 → Int32 → Int32 → Int32 → Option Int32) (hK41 : ∀ (z0 : Nat) (z1 : Int32) (z2 : Int32) (z3 : Int32) (z4 : Int32) (z5 : Int32) (z6 : Int32), AO l g M_X12_line false h 41 [(0, .ref z0), (1, .int z1), (2, .int z2), (3, .int z3), (4, .int z4), (5, .int z5), (6, .int z6)] [] h 0 0 (rPi h) (K41 z0 z1 z2 z3 z4 z5 z6)) (x0 : Nat) (x1 : Int32) (x2 : Int32) (x3 : Int32) (x4 : Int32) (x5 : Int32) (x6 : Int32) : AO l g M_X12_line false h 41 [(0, .ref x0), (1, .int x1), (2, .int x2), (3, .int x3), (4, .int x4), (5, .int x5), (6, .int x6)] [] h 0 0 (rPi h) (f_X12_line_b41_body h N K41 x0 x1 x2 x3 x4 x5 x6) := by
  unfold f_X12_line_b41_body
  refine a_iload dX12_line_41 6 rfl ?_
  refine a_aload_n dX12_line_43 rfl 0 rfl ?_
  refine a_geti kc13 26 dX12_line_44 (by decide) rfl w_fieldLink_RainCoverModel_214 (fun v7 => ?_)
  refine a_icmp_ge 213 dX12_line_47 (by decide) (fun c8 => ?_) (fun c8 => ?_)
  · refine a_iload_n dX12_line_213 rfl 3 rfl ?_
    refine a_if_ne 222 dX12_line_214 (by decide) (fun c9 => ?_) (fun c9 => ?_)
    · refine a_iload dX12_line_217 4 rfl ?_
      refine a_goto 250 dX12_line_219 (by decide) ?_
      exact a_iret dX12_line_250 rfl rfl (by decide) (by decide)
    · refine a_iload dX12_line_222 5 rfl ?_
      refine a_iconst (v := (-1)) dX12_line_224 (by decide) ?_
      refine a_icmp_ne 232 dX12_line_225 (by decide) (fun c10 => ?_) (fun c10 => ?_)
      · refine a_iconst (v := (-1)) dX12_line_228 (by decide) ?_
        refine a_goto 250 dX12_line_229 (by decide) ?_
        exact a_iret dX12_line_250 rfl rfl (by decide) (by decide)
      · refine a_iload_n dX12_line_232 rfl 3 rfl ?_
        refine a_iconst (v := 1) dX12_line_233 (by decide) ?_
        refine a_icmp_ne 245 dX12_line_234 (by decide) (fun c11 => ?_) (fun c11 => ?_)
        · refine a_iload dX12_line_237 5 rfl ?_
          refine a_bipush (v := 24) dX12_line_239 (by decide) ?_
          refine a_idiv dX12_line_241 (fun c12 => ?_)
          refine a_goto 250 dX12_line_242 (by decide) ?_
          exact a_iret dX12_line_250 rfl rfl (by decide) (by decide)
        · refine a_iload dX12_line_245 5 rfl ?_
          refine a_bipush (v := 24) dX12_line_247 (by decide) ?_
          refine a_irem dX12_line_249 (fun c13 => ?_)
          exact a_iret dX12_line_250 rfl rfl (by decide) (by decide)
  · refine a_iload dX12_line_50 6 rfl ?_
    refine a_iconst (v := 1) dX12_line_52 (by decide) ?_
    refine a_iadd dX12_line_53 ?_
    refine a_istore (lc2 := [(7, .int (x6 + 1)), (0, .ref x0), (1, .int x1), (2, .int x2), (3, .int x3), (4, .int x4), (5, .int x5), (6, .int x6)]) dX12_line_54 (by decide) rfl ?_
    refine a_pick (lc2 := [(0, .ref x0), (1, .int x1), (2, .int x2), (3, .int x3), (4, .int x4), (5, .int x5), (6, .int x6), (7, .int (x6 + 1))]) [1, 2, 3, 4, 5, 6, 7, 0] rfl ?_
    exact t_X12_line_b56 h N K41 hK41 N x0 x1 x2 x3 x4 x5 x6 (x6 + 1)
set_option maxRecDepth 100000 in
set_option maxHeartbeats 4000000 in
theorem t_X12_line_b41 (h : AH) (N : Nat) : ∀ (n : Nat) (x0 : Nat) (x1 : Int32) (x2 : Int32) (x3 : Int32) (x4 : Int32) (x5 : Int32) (x6 : Int32) , AO l g M_X12_line false h 41 [(0, .ref x0), (1, .int x1), (2, .int x2), (3, .int x3), (4, .int x4), (5, .int x5), (6, .int x6)] [] h 0 0 (rPi h) (f_X12_line_b41 h N  n x0 x1 x2 x3 x4 x5 x6) := by
  intro n
  induction n with
  | zero => intro x0 x1 x2 x3 x4 x5 x6; exact a_eq rfl a_none
  | succ n ih => intro x0 x1 x2 x3 x4 x5 x6; exact a_eq rfl (t_X12_line_b41_body h N  (f_X12_line_b41 h N  n) ih x0 x1 x2 x3 x4 x5 x6)
end
set_option maxRecDepth 100000 in
set_option maxHeartbeats 4000000 in
theorem c_X12_line (l : Launch) (g : GG) (h : AH) (N : Nat) (p0 : Nat) (p1 : Int32) (p2 : Int32) (p3 : Int32) : CN l g yX12_line M_X12_line false [.ref p0, .int p1, .int p2, .int p3] h ((rPi h)) (f_X12_line h N p0 p1 p2 p3) := by
  refine CN.of (by decide) rfl (fun hh => by first | rfl | cases hh) (Nat.le_of_ble_eq_true rfl) ?_
  unfold f_X12_line
  refine a_gd (fun hkd => ?_)
  refine a_iload_n dX12_line_0 rfl 1 rfl ?_
  refine a_cS_Pi (as := [.int p1]) (st := []) dX12_line_1 (c_X12_isSeason l g h p1) rfl km_X12_isSeason (hm_X12_isSeason) w_methodLink_RainCoverModel_221 w_static_RainCoverModel_isSeason__I_Z ⟨⟨by decide, by decide⟩, ⟨by decide, by decide⟩⟩ (Nat.le_of_ble_eq_true rfl) (fun v1 => ?_)
  refine a_if_eq 16 dX12_line_4 (by decide) (fun c2 => ?_) (fun c2 => ?_)
  · refine a_iconst (v := (-1)) dX12_line_16 (by decide) ?_
    exact a_iret dX12_line_17 rfl rfl (by decide) (by decide)
  · refine a_iload_n dX12_line_7 rfl 3 rfl ?_
    refine a_iconst (v := 0) dX12_line_8 (by decide) ?_
    refine a_iconst (v := 2) dX12_line_9 (by decide) ?_
    refine a_cS_Pi (as := [.int p3, .int 0, .int 2]) (st := []) dX12_line_10 (c_X12_in l g h p3 0 2) rfl km_X12_in (hm_X12_in) w_methodLink_RainCoverModel_204 w_static_RainCoverModel_in__III_Z ⟨⟨by decide, by decide⟩, ⟨by decide, by decide⟩⟩ (Nat.le_of_ble_eq_true rfl) (fun v3 => ?_)
    refine a_if_ne 18 dX12_line_13 (by decide) (fun c4 => ?_) (fun c4 => ?_)
    · refine a_iconst (v := (-1)) dX12_line_16 (by decide) ?_
      exact a_iret dX12_line_17 rfl rfl (by decide) (by decide)
    · refine a_iload_n dX12_line_18 rfl 2 rfl ?_
      refine a_iconst (v := 0) dX12_line_19 (by decide) ?_
      refine a_sipush (v := 198) dX12_line_20 (by decide) ?_
      refine a_cS_Pi (as := [.int p2, .int 0, .int 198]) (st := []) dX12_line_23 (c_X12_in l g h p2 0 198) rfl km_X12_in (hm_X12_in) w_methodLink_RainCoverModel_204 w_static_RainCoverModel_in__III_Z ⟨⟨by decide, by decide⟩, ⟨by decide, by decide⟩⟩ (Nat.le_of_ble_eq_true rfl) (fun v5 => ?_)
      refine a_if_ne 32 dX12_line_26 (by decide) (fun c6 => ?_) (fun c6 => ?_)
      · refine a_bipush (v := (-2)) dX12_line_29 (by decide) ?_
        exact a_iret dX12_line_31 rfl rfl (by decide) (by decide)
      · refine a_iconst (v := 0) dX12_line_32 (by decide) ?_
        refine a_istore (lc2 := [(4, .int 0), (0, .ref p0), (1, .int p1), (2, .int p2), (3, .int p3)]) dX12_line_33 (by decide) rfl ?_
        refine a_iconst (v := (-1)) dX12_line_35 (by decide) ?_
        refine a_istore (lc2 := [(5, .int (-1)), (4, .int 0), (0, .ref p0), (1, .int p1), (2, .int p2), (3, .int p3)]) dX12_line_36 (by decide) rfl ?_
        refine a_iconst (v := 0) dX12_line_38 (by decide) ?_
        refine a_istore (lc2 := [(6, .int 0), (5, .int (-1)), (4, .int 0), (0, .ref p0), (1, .int p1), (2, .int p2), (3, .int p3)]) dX12_line_39 (by decide) rfl ?_
        refine a_pick (lc2 := [(0, .ref p0), (1, .int p1), (2, .int p2), (3, .int p3), (4, .int 0), (5, .int (-1)), (6, .int 0)]) [3, 4, 5, 6, 2, 1, 0] rfl ?_
        exact t_X12_line_b41 h N N p0 p1 p2 p3 0 (-1) 0
theorem dX12_lookOf_0 : decode cX12_lookOf 0 = .ok (.iconst 0, 1) := by decide +kernel
theorem dX12_lookOf_1 : decode cX12_lookOf 1 = .ok (.istore_n 3, 1) := by decide +kernel
theorem dX12_lookOf_2 : decode cX12_lookOf 2 = .ok (.iload_n 3, 1) := by decide +kernel
theorem dX12_lookOf_3 : decode cX12_lookOf 3 = .ok (.aload_n 0, 1) := by decide +kernel
theorem dX12_lookOf_4 : decode cX12_lookOf 4 = .ok (.getfield 364, 3) := by decide +kernel
theorem dX12_lookOf_7 : decode cX12_lookOf 7 = .ok (.if_icmp .ge 31, 3) := by decide +kernel
theorem dX12_lookOf_10 : decode cX12_lookOf 10 = .ok (.aload_n 0, 1) := by decide +kernel
theorem dX12_lookOf_11 : decode cX12_lookOf 11 = .ok (.getfield 121, 3) := by decide +kernel
theorem dX12_lookOf_14 : decode cX12_lookOf 14 = .ok (.iload_n 3, 1) := by decide +kernel
theorem dX12_lookOf_15 : decode cX12_lookOf 15 = .ok (.iaload, 1) := by decide +kernel
theorem dX12_lookOf_16 : decode cX12_lookOf 16 = .ok (.iload_n 1, 1) := by decide +kernel
theorem dX12_lookOf_17 : decode cX12_lookOf 17 = .ok (.if_icmp .ne 15, 3) := by decide +kernel
theorem dX12_lookOf_20 : decode cX12_lookOf 20 = .ok (.aload_n 0, 1) := by decide +kernel
theorem dX12_lookOf_21 : decode cX12_lookOf 21 = .ok (.getfield 124, 3) := by decide +kernel
theorem dX12_lookOf_24 : decode cX12_lookOf 24 = .ok (.iload_n 3, 1) := by decide +kernel
theorem dX12_lookOf_25 : decode cX12_lookOf 25 = .ok (.iaload, 1) := by decide +kernel
theorem dX12_lookOf_26 : decode cX12_lookOf 26 = .ok (.iload_n 2, 1) := by decide +kernel
theorem dX12_lookOf_27 : decode cX12_lookOf 27 = .ok (.if_icmp .ne 5, 3) := by decide +kernel
theorem dX12_lookOf_30 : decode cX12_lookOf 30 = .ok (.iload_n 3, 1) := by decide +kernel
theorem dX12_lookOf_31 : decode cX12_lookOf 31 = .ok (.ireturn, 1) := by decide +kernel
theorem dX12_lookOf_32 : decode cX12_lookOf 32 = .ok (.iinc 3 1, 3) := by decide +kernel
theorem dX12_lookOf_35 : decode cX12_lookOf 35 = .ok (.goto (-33), 3) := by decide +kernel
theorem dX12_lookOf_38 : decode cX12_lookOf 38 = .ok (.iconst (-1), 1) := by decide +kernel
theorem dX12_lookOf_39 : decode cX12_lookOf 39 = .ok (.ireturn, 1) := by decide +kernel
abbrev M_X12_lookOf : MI := (RX12, cX12_lookOf, 4, (some .int), ({ frames := 0, cells := 0, slots := 0, locals := 0 } : Room), 0, 0, false)
def f_X12_lookOf_b32 (h : AH) (N : Nat) (K2 : Nat → Int32 → Int32 → Int32 → Option Int32) (x0 : Nat) (x1 : Int32) (x2 : Int32) (x3 : Int32) : Option Int32 := K2 x0 x1 x2 (x3 + 1)
def f_X12_lookOf_b2_body (h : AH) (N : Nat) (K2 : Nat → Int32 → Int32 → Int32 → Option Int32) (x0 : Nat) (x1 : Int32) (x2 : Int32) (x3 : Int32) : Option Int32 := (xgi h x0 13 41).bind fun v1 => (if v1 ≤ x3 then some (-1) else (xgr h x0 13 42).bind fun v3 => (xia h v3 x3).bind fun v4 => (if v4 = x1 then (xgr h x0 13 43).bind fun v6 => (xia h v6 x3).bind fun v7 => (if v7 = x2 then some x3 else f_X12_lookOf_b32 h N K2 x0 x1 x2 x3) else f_X12_lookOf_b32 h N K2 x0 x1 x2 x3))
def f_X12_lookOf_b2 (h : AH) (N : Nat) : Nat → Nat → Int32 → Int32 → Int32 → Option Int32
  | 0, _, _, _, _ => none
  | n + 1, x0, x1, x2, x3 => f_X12_lookOf_b2_body h N  (f_X12_lookOf_b2 h N  n) x0 x1 x2 x3
def f_X12_lookOf (h : AH) (N : Nat) (p0 : Nat) (p1 : Int32) (p2 : Int32) : Option Int32 := if kd h p0 = 13 + 1 then f_X12_lookOf_b2 h N N p0 p1 p2 0 else none
theorem g_X12_lookOf {h : AH} {N : Nat} {p0 : Nat} {p1 : Int32} {p2 : Int32} {x : Int32} (e : f_X12_lookOf h N p0 p1 p2 = some x) : kd h p0 = 13 + 1 := by
  unfold f_X12_lookOf at e
  by_cases hk : kd h p0 = 13 + 1
  · exact hk
  · rw [if_neg hk] at e
    cases e
theorem km_X12_lookOf : KM yX12_lookOf M_X12_lookOf 2 := ⟨in_tb 1672 (by decide +kernel) rfl, in_tb 9 (by decide +kernel) rfl, by decide +kernel, rfl, rfl⟩
theorem hm_X12_lookOf : M_X12_lookOf.2.2.2.2.2.1 = 0 ∧ M_X12_lookOf.2.2.2.2.2.2.1 = 0 := ⟨rfl, rfl⟩
section
variable {l : Launch} {g : GG}
set_option maxRecDepth 100000 in
set_option maxHeartbeats 4000000 in
theorem t_X12_lookOf_b32 (h : AH) (N : Nat) (K2 : Nat → Int32 → Int32 → Int32 → Option Int32) (hK2 : ∀ (z0 : Nat) (z1 : Int32) (z2 : Int32) (z3 : Int32), AO l g M_X12_lookOf false h 2 [(0, .ref z0), (1, .int z1), (2, .int z2), (3, .int z3)] [] h 0 0 (rPi h) (K2 z0 z1 z2 z3)) (x0 : Nat) (x1 : Int32) (x2 : Int32) (x3 : Int32) : AO l g M_X12_lookOf false h 32 [(0, .ref x0), (1, .int x1), (2, .int x2), (3, .int x3)] [] h 0 0 (rPi h) (f_X12_lookOf_b32 h N K2 x0 x1 x2 x3) := by
  unfold f_X12_lookOf_b32
  refine a_iinc (q := 3) (v := (x3 + 1)) (lc2 := [(3, .int (x3 + 1)), (0, .ref x0), (1, .int x1), (2, .int x2)]) dX12_lookOf_32 rfl rfl (by decide) rfl ?_
  refine a_goto 2 dX12_lookOf_35 (by decide) ?_
  refine a_pick (lc2 := [(0, .ref x0), (1, .int x1), (2, .int x2), (3, .int (x3 + 1))]) [1, 2, 3, 0] rfl ?_
  exact hK2 x0 x1 x2 (x3 + 1)
set_option maxRecDepth 100000 in
set_option maxHeartbeats 4000000 in
theorem t_X12_lookOf_b2_body (h : AH) (N : Nat) (K2 : Nat → Int32 → Int32 → Int32 → Option Int32) (hK2 : ∀ (z0 : Nat) (z1 : Int32) (z2 : Int32) (z3 : Int32), AO l g M_X12_lookOf false h 2 [(0, .ref z0), (1, .int z1), (2, .int z2), (3, .int z3)] [] h 0 0 (rPi h) (K2 z0 z1 z2 z3)) (x0 : Nat) (x1 : Int32) (x2 : Int32) (x3 : Int32) : AO l g M_X12_lookOf false h 2 [(0, .ref x0), (1, .int x1), (2, .int x2), (3, .int x3)] [] h 0 0 (rPi h) (f_X12_lookOf_b2_body h N K2 x0 x1 x2 x3) := by
  unfold f_X12_lookOf_b2_body
  refine a_iload_n dX12_lookOf_2 rfl 3 rfl ?_
  refine a_aload_n dX12_lookOf_3 rfl 0 rfl ?_
  refine a_geti kc13 41 dX12_lookOf_4 (by decide) rfl w_fieldLink_RainCoverModel_364 (fun v1 => ?_)
  refine a_icmp_ge 38 dX12_lookOf_7 (by decide) (fun c2 => ?_) (fun c2 => ?_)
  · refine a_iconst (v := (-1)) dX12_lookOf_38 (by decide) ?_
    exact a_iret dX12_lookOf_39 rfl rfl (by decide) (by decide)
  · refine a_aload_n dX12_lookOf_10 rfl 0 rfl ?_
    refine a_getr kc13 42 dX12_lookOf_11 (by decide) rfl w_fieldLink_RainCoverModel_121 (fun v3 => ?_)
    refine a_iload_n dX12_lookOf_14 rfl 3 rfl ?_
    refine a_iald dX12_lookOf_15 (fun v4 => ?_)
    refine a_iload_n dX12_lookOf_16 rfl 1 rfl ?_
    refine a_icmp_ne 32 dX12_lookOf_17 (by decide) (fun c5 => ?_) (fun c5 => ?_)
    · refine a_aload_n dX12_lookOf_20 rfl 0 rfl ?_
      refine a_getr kc13 43 dX12_lookOf_21 (by decide) rfl w_fieldLink_RainCoverModel_124 (fun v6 => ?_)
      refine a_iload_n dX12_lookOf_24 rfl 3 rfl ?_
      refine a_iald dX12_lookOf_25 (fun v7 => ?_)
      refine a_iload_n dX12_lookOf_26 rfl 2 rfl ?_
      refine a_icmp_ne 32 dX12_lookOf_27 (by decide) (fun c8 => ?_) (fun c8 => ?_)
      · refine a_iload_n dX12_lookOf_30 rfl 3 rfl ?_
        exact a_iret dX12_lookOf_31 rfl rfl (by decide) (by decide)
      · exact t_X12_lookOf_b32 h N K2 hK2 x0 x1 x2 x3
    · exact t_X12_lookOf_b32 h N K2 hK2 x0 x1 x2 x3
set_option maxRecDepth 100000 in
set_option maxHeartbeats 4000000 in
theorem t_X12_lookOf_b2 (h : AH) (N : Nat) : ∀ (n : Nat) (x0 : Nat) (x1 : Int32) (x2 : Int32) (x3 : Int32) , AO l g M_X12_lookOf false h 2 [(0, .ref x0), (1, .int x1), (2, .int x2), (3, .int x3)] [] h 0 0 (rPi h) (f_X12_lookOf_b2 h N  n x0 x1 x2 x3) := by
  intro n
  induction n with
  | zero => intro x0 x1 x2 x3; exact a_eq rfl a_none
  | succ n ih => intro x0 x1 x2 x3; exact a_eq rfl (t_X12_lookOf_b2_body h N  (f_X12_lookOf_b2 h N  n) ih x0 x1 x2 x3)
end
set_option maxRecDepth 100000 in
set_option maxHeartbeats 4000000 in
theorem c_X12_lookOf (l : Launch) (g : GG) (h : AH) (N : Nat) (p0 : Nat) (p1 : Int32) (p2 : Int32) : CN l g yX12_lookOf M_X12_lookOf false [.ref p0, .int p1, .int p2] h ((rPi h)) (f_X12_lookOf h N p0 p1 p2) := by
  refine CN.of (by decide) rfl (fun hh => by first | rfl | cases hh) (Nat.le_of_ble_eq_true rfl) ?_
  unfold f_X12_lookOf
  refine a_gd (fun hkd => ?_)
  refine a_iconst (v := 0) dX12_lookOf_0 (by decide) ?_
  refine a_istore_n (lc2 := [(3, .int 0), (0, .ref p0), (1, .int p1), (2, .int p2)]) dX12_lookOf_1 rfl (by decide) rfl ?_
  refine a_pick (lc2 := [(0, .ref p0), (1, .int p1), (2, .int p2), (3, .int 0)]) [1, 2, 3, 0] rfl ?_
  exact t_X12_lookOf_b2 h N N p0 p1 p2 0
theorem dX12_look_0 : decode cX12_look 0 = .ok (.aload_n 0, 1) := by decide +kernel
theorem dX12_look_1 : decode cX12_look 1 = .ok (.iload_n 1, 1) := by decide +kernel
theorem dX12_look_2 : decode cX12_look 2 = .ok (.invokevirtual 346, 3) := by decide +kernel
theorem dX12_look_5 : decode cX12_look 5 = .ok (.ifCond .eq 10, 3) := by decide +kernel
theorem dX12_look_8 : decode cX12_look 8 = .ok (.iload_n 2, 1) := by decide +kernel
theorem dX12_look_9 : decode cX12_look 9 = .ok (.invokestatic 221, 3) := by decide +kernel
theorem dX12_look_12 : decode cX12_look 12 = .ok (.ifCond .ne 5, 3) := by decide +kernel
theorem dX12_look_15 : decode cX12_look 15 = .ok (.iconst (-1), 1) := by decide +kernel
theorem dX12_look_16 : decode cX12_look 16 = .ok (.ireturn, 1) := by decide +kernel
theorem dX12_look_17 : decode cX12_look 17 = .ok (.iload_n 3, 1) := by decide +kernel
theorem dX12_look_18 : decode cX12_look 18 = .ok (.iconst 0, 1) := by decide +kernel
theorem dX12_look_19 : decode cX12_look 19 = .ok (.sipush 9999, 3) := by decide +kernel
theorem dX12_look_22 : decode cX12_look 22 = .ok (.invokestatic 204, 3) := by decide +kernel
theorem dX12_look_25 : decode cX12_look 25 = .ok (.ifCond .eq 15, 3) := by decide +kernel
theorem dX12_look_28 : decode cX12_look 28 = .ok (.iload 4, 2) := by decide +kernel
theorem dX12_look_30 : decode cX12_look 30 = .ok (.iconst 0, 1) := by decide +kernel
theorem dX12_look_31 : decode cX12_look 31 = .ok (.sipush 9999, 3) := by decide +kernel
theorem dX12_look_34 : decode cX12_look 34 = .ok (.invokestatic 204, 3) := by decide +kernel
theorem dX12_look_37 : decode cX12_look 37 = .ok (.ifCond .ne 6, 3) := by decide +kernel
theorem dX12_look_40 : decode cX12_look 40 = .ok (.bipush (-2), 2) := by decide +kernel
theorem dX12_look_42 : decode cX12_look 42 = .ok (.ireturn, 1) := by decide +kernel
theorem dX12_look_43 : decode cX12_look 43 = .ok (.aload_n 0, 1) := by decide +kernel
theorem dX12_look_44 : decode cX12_look 44 = .ok (.iload_n 1, 1) := by decide +kernel
theorem dX12_look_45 : decode cX12_look 45 = .ok (.iload_n 2, 1) := by decide +kernel
theorem dX12_look_46 : decode cX12_look 46 = .ok (.invokevirtual 367, 3) := by decide +kernel
theorem dX12_look_49 : decode cX12_look 49 = .ok (.istore 5, 2) := by decide +kernel
theorem dX12_look_51 : decode cX12_look 51 = .ok (.iload 5, 2) := by decide +kernel
theorem dX12_look_53 : decode cX12_look 53 = .ok (.iconst (-1), 1) := by decide +kernel
theorem dX12_look_54 : decode cX12_look 54 = .ok (.if_icmp .ne 15, 3) := by decide +kernel
theorem dX12_look_57 : decode cX12_look 57 = .ok (.aload_n 0, 1) := by decide +kernel
theorem dX12_look_58 : decode cX12_look 58 = .ok (.getfield 364, 3) := by decide +kernel
theorem dX12_look_61 : decode cX12_look 61 = .ok (.bipush 80, 2) := by decide +kernel
theorem dX12_look_63 : decode cX12_look 63 = .ok (.if_icmp .ne 6, 3) := by decide +kernel
theorem dX12_look_66 : decode cX12_look 66 = .ok (.bipush (-4), 2) := by decide +kernel
theorem dX12_look_68 : decode cX12_look 68 = .ok (.ireturn, 1) := by decide +kernel
theorem dX12_look_69 : decode cX12_look 69 = .ok (.iload 5, 2) := by decide +kernel
theorem dX12_look_71 : decode cX12_look 71 = .ok (.iconst (-1), 1) := by decide +kernel
theorem dX12_look_72 : decode cX12_look 72 = .ok (.if_icmp .ne 35, 3) := by decide +kernel
theorem dX12_look_75 : decode cX12_look 75 = .ok (.aload_n 0, 1) := by decide +kernel
theorem dX12_look_76 : decode cX12_look 76 = .ok (.getfield 364, 3) := by decide +kernel
theorem dX12_look_79 : decode cX12_look 79 = .ok (.istore 5, 2) := by decide +kernel
theorem dX12_look_81 : decode cX12_look 81 = .ok (.aload_n 0, 1) := by decide +kernel
theorem dX12_look_82 : decode cX12_look 82 = .ok (.getfield 121, 3) := by decide +kernel
theorem dX12_look_85 : decode cX12_look 85 = .ok (.iload 5, 2) := by decide +kernel
theorem dX12_look_87 : decode cX12_look 87 = .ok (.iload_n 1, 1) := by decide +kernel
theorem dX12_look_88 : decode cX12_look 88 = .ok (.iastore, 1) := by decide +kernel
theorem dX12_look_89 : decode cX12_look 89 = .ok (.aload_n 0, 1) := by decide +kernel
theorem dX12_look_90 : decode cX12_look 90 = .ok (.getfield 124, 3) := by decide +kernel
theorem dX12_look_93 : decode cX12_look 93 = .ok (.iload 5, 2) := by decide +kernel
theorem dX12_look_95 : decode cX12_look 95 = .ok (.iload_n 2, 1) := by decide +kernel
theorem dX12_look_96 : decode cX12_look 96 = .ok (.iastore, 1) := by decide +kernel
theorem dX12_look_97 : decode cX12_look 97 = .ok (.aload_n 0, 1) := by decide +kernel
theorem dX12_look_98 : decode cX12_look 98 = .ok (.dup, 1) := by decide +kernel
theorem dX12_look_99 : decode cX12_look 99 = .ok (.getfield 364, 3) := by decide +kernel
theorem dX12_look_102 : decode cX12_look 102 = .ok (.iconst 1, 1) := by decide +kernel
theorem dX12_look_103 : decode cX12_look 103 = .ok (.iadd, 1) := by decide +kernel
theorem dX12_look_104 : decode cX12_look 104 = .ok (.putfield 364, 3) := by decide +kernel
theorem dX12_look_107 : decode cX12_look 107 = .ok (.aload_n 0, 1) := by decide +kernel
theorem dX12_look_108 : decode cX12_look 108 = .ok (.getfield 127, 3) := by decide +kernel
theorem dX12_look_111 : decode cX12_look 111 = .ok (.iload 5, 2) := by decide +kernel
theorem dX12_look_113 : decode cX12_look 113 = .ok (.iload_n 3, 1) := by decide +kernel
theorem dX12_look_114 : decode cX12_look 114 = .ok (.iastore, 1) := by decide +kernel
theorem dX12_look_115 : decode cX12_look 115 = .ok (.aload_n 0, 1) := by decide +kernel
theorem dX12_look_116 : decode cX12_look 116 = .ok (.getfield 130, 3) := by decide +kernel
theorem dX12_look_119 : decode cX12_look 119 = .ok (.iload 5, 2) := by decide +kernel
theorem dX12_look_121 : decode cX12_look 121 = .ok (.iload 4, 2) := by decide +kernel
theorem dX12_look_123 : decode cX12_look 123 = .ok (.iastore, 1) := by decide +kernel
theorem dX12_look_124 : decode cX12_look 124 = .ok (.aload_n 0, 1) := by decide +kernel
theorem dX12_look_125 : decode cX12_look 125 = .ok (.getfield 364, 3) := by decide +kernel
theorem dX12_look_128 : decode cX12_look 128 = .ok (.ireturn, 1) := by decide +kernel
abbrev M_X12_look : MI := (RX12, cX12_look, 6, (some .int), ({ frames := 2, cells := 0, slots := 0, locals := 43 } : Room), 0, 0, false)
def f_X12_look_b107 (N : Nat) (h : AH) (x0 : Nat) (x3 : Int32) (x4 : Int32) (x5 : Int32) : Option (Int32 × AH) := (xgr h x0 13 44).bind fun v21 => (xis h v21 x5 x3).bind fun h22 => (xgr h22 x0 13 45).bind fun v23 => (xis h22 v23 x5 x4).bind fun h24 => (xgi h24 x0 13 41).bind fun v25 => some (v25, h24)
def f_X12_look_b69 (N : Nat) (h : AH) (x0 : Nat) (x1 : Int32) (x2 : Int32) (x3 : Int32) (x4 : Int32) (x5 : Int32) : Option (Int32 × AH) := (if x5 = (-1) then (xgi h x0 13 41).bind fun v14 => (xgr h x0 13 42).bind fun v15 => (xis h v15 v14 x1).bind fun h16 => (xgr h16 x0 13 43).bind fun v17 => (xis h16 v17 v14 x2).bind fun h18 => (xgi h18 x0 13 41).bind fun v19 => (xpi h18 x0 13 41 (v19 + 1)).bind fun h20 => f_X12_look_b107 N h20 x0 x3 x4 v14 else f_X12_look_b107 N h x0 x3 x4 x5)
def f_X12_look (h0 : AH) (N : Nat) (p0 : Nat) (p1 : Int32) (p2 : Int32) (p3 : Int32) (p4 : Int32) : Option (Int32 × AH) := if kd h0 p0 = 13 + 1 then (f_X12_isFarm h0 p0 p1).bind fun v1 => (if v1 = 0 then some ((-1), h0) else (f_X12_isSeason h0 p2).bind fun v3 => (if v3 = 0 then some ((-1), h0) else (f_X12_in h0 p3 0 9999).bind fun v5 => (if v5 = 0 then some ((-2), h0) else (f_X12_in h0 p4 0 9999).bind fun v7 => (if v7 = 0 then some ((-2), h0) else (f_X12_lookOf h0 N p0 p1 p2).bind fun v9 => (if v9 = (-1) then (xgi h0 p0 13 41).bind fun v11 => (if v11 = 80 then some ((-4), h0) else f_X12_look_b69 N h0 p0 p1 p2 p3 p4 v9) else f_X12_look_b69 N h0 p0 p1 p2 p3 p4 v9))))) else none
theorem g_X12_look {h0 : AH} {N : Nat} {p0 : Nat} {p1 : Int32} {p2 : Int32} {p3 : Int32} {p4 : Int32} {x : (Int32 × AH)} (e : f_X12_look h0 N p0 p1 p2 p3 p4 = some x) : kd h0 p0 = 13 + 1 := by
  unfold f_X12_look at e
  by_cases hk : kd h0 p0 = 13 + 1
  · exact hk
  · rw [if_neg hk] at e
    cases e
theorem km_X12_look : KM yX12_look M_X12_look 4 := ⟨in_tb 1668 (by decide +kernel) rfl, in_tb 9 (by decide +kernel) rfl, by decide +kernel, rfl, rfl⟩
theorem hm_X12_look : M_X12_look.2.2.2.2.2.1 = 0 ∧ M_X12_look.2.2.2.2.2.2.1 = 0 := ⟨rfl, rfl⟩
section
variable {l : Launch} {g : GG}
set_option maxRecDepth 100000 in
set_option maxHeartbeats 4000000 in
theorem t_X12_look_b107 (h0 : AH) (N : Nat) (h : AH) (x0 : Nat) (x3 : Int32) (x4 : Int32) (x5 : Int32) : AO l g M_X12_look false h0 107 [(0, .ref x0), (3, .int x3), (4, .int x4), (5, .int x5)] [] h 0 0 rSi (f_X12_look_b107 N  h x0 x3 x4 x5) := by
  unfold f_X12_look_b107
  refine a_aload_n dX12_look_107 rfl 0 rfl ?_
  refine a_getr kc13 44 dX12_look_108 (by decide) rfl w_fieldLink_RainCoverModel_127 (fun v21 => ?_)
  refine a_iload dX12_look_111 3 rfl ?_
  refine a_iload_n dX12_look_113 rfl 1 rfl ?_
  refine a_iast dX12_look_114 (fun h22 => ?_)
  refine a_aload_n dX12_look_115 rfl 0 rfl ?_
  refine a_getr kc13 45 dX12_look_116 (by decide) rfl w_fieldLink_RainCoverModel_130 (fun v23 => ?_)
  refine a_iload dX12_look_119 3 rfl ?_
  refine a_iload dX12_look_121 2 rfl ?_
  refine a_iast dX12_look_123 (fun h24 => ?_)
  refine a_aload_n dX12_look_124 rfl 0 rfl ?_
  refine a_geti kc13 41 dX12_look_125 (by decide) rfl w_fieldLink_RainCoverModel_364 (fun v25 => ?_)
  exact a_iret dX12_look_128 rfl rfl (by decide) (by decide)
set_option maxRecDepth 100000 in
set_option maxHeartbeats 4000000 in
theorem t_X12_look_b69 (h0 : AH) (N : Nat) (h : AH) (x0 : Nat) (x1 : Int32) (x2 : Int32) (x3 : Int32) (x4 : Int32) (x5 : Int32) : AO l g M_X12_look false h0 69 [(0, .ref x0), (1, .int x1), (2, .int x2), (3, .int x3), (4, .int x4), (5, .int x5)] [] h 0 0 rSi (f_X12_look_b69 N  h x0 x1 x2 x3 x4 x5) := by
  unfold f_X12_look_b69
  refine a_iload dX12_look_69 5 rfl ?_
  refine a_iconst (v := (-1)) dX12_look_71 (by decide) ?_
  refine a_icmp_ne 107 dX12_look_72 (by decide) (fun c13 => ?_) (fun c13 => ?_)
  · refine a_aload_n dX12_look_75 rfl 0 rfl ?_
    refine a_geti kc13 41 dX12_look_76 (by decide) rfl w_fieldLink_RainCoverModel_364 (fun v14 => ?_)
    refine a_istore (lc2 := [(5, .int v14), (0, .ref x0), (1, .int x1), (2, .int x2), (3, .int x3), (4, .int x4)]) dX12_look_79 (by decide) rfl ?_
    refine a_aload_n dX12_look_81 rfl 1 rfl ?_
    refine a_getr kc13 42 dX12_look_82 (by decide) rfl w_fieldLink_RainCoverModel_121 (fun v15 => ?_)
    refine a_iload dX12_look_85 0 rfl ?_
    refine a_iload_n dX12_look_87 rfl 2 rfl ?_
    refine a_iast dX12_look_88 (fun h16 => ?_)
    refine a_aload_n dX12_look_89 rfl 1 rfl ?_
    refine a_getr kc13 43 dX12_look_90 (by decide) rfl w_fieldLink_RainCoverModel_124 (fun v17 => ?_)
    refine a_iload dX12_look_93 0 rfl ?_
    refine a_iload_n dX12_look_95 rfl 3 rfl ?_
    refine a_iast dX12_look_96 (fun h18 => ?_)
    refine a_aload_n dX12_look_97 rfl 1 rfl ?_
    refine a_dup dX12_look_98 rfl ?_
    refine a_geti kc13 41 dX12_look_99 (by decide) rfl w_fieldLink_RainCoverModel_364 (fun v19 => ?_)
    refine a_iconst (v := 1) dX12_look_102 (by decide) ?_
    refine a_iadd dX12_look_103 ?_
    refine a_puti kc13 41 dX12_look_104 (by decide) rfl w_fieldLink_RainCoverModel_364 rfl rfl (fun h20 => ?_)
    refine a_pick (lc2 := [(0, .ref x0), (3, .int x3), (4, .int x4), (5, .int v14)]) [1, 4, 5, 0] rfl ?_
    exact t_X12_look_b107 h0 N h20 x0 x3 x4 v14
  · refine a_pick (lc2 := [(0, .ref x0), (3, .int x3), (4, .int x4), (5, .int x5)]) [0, 3, 4, 5] rfl ?_
    exact t_X12_look_b107 h0 N h x0 x3 x4 x5
end
set_option maxRecDepth 100000 in
set_option maxHeartbeats 4000000 in
theorem c_X12_look (l : Launch) (g : GG) (h0 : AH) (N : Nat) (p0 : Nat) (p1 : Int32) (p2 : Int32) (p3 : Int32) (p4 : Int32) : CN l g yX12_look M_X12_look false [.ref p0, .int p1, .int p2, .int p3, .int p4] h0 rSi (f_X12_look h0 N p0 p1 p2 p3 p4) := by
  refine CN.of (by decide) rfl (fun hh => by first | rfl | cases hh) (Nat.le_of_ble_eq_true rfl) ?_
  unfold f_X12_look
  refine a_gd (fun hkd => ?_)
  refine a_aload_n dX12_look_0 rfl 0 rfl ?_
  refine a_iload_n dX12_look_1 rfl 1 rfl ?_
  refine a_cV_Pi (r := p0) (ci := 13) (as := [.int p1]) (st := []) dX12_look_2 (c_X12_isFarm l g h0 p0 p1) rfl km_X12_isFarm (hm_X12_isFarm) rfl (by decide) rfl (fun _ ee => g_X12_isFarm ee) w_methodLink_RainCoverModel_346 w_instanceMethod_RainCoverModel_isFarm__I_Z w_selects_RainCoverModel_RainCoverModel_isFarm__I_Z_RainCoverModel_isFarm__I_Z ⟨⟨by decide, by decide⟩, ⟨by decide, by decide⟩⟩ (Nat.le_of_ble_eq_true rfl) (fun v1 => ?_)
  refine a_if_eq 15 dX12_look_5 (by decide) (fun c2 => ?_) (fun c2 => ?_)
  · refine a_iconst (v := (-1)) dX12_look_15 (by decide) ?_
    exact a_iret dX12_look_16 rfl rfl (by decide) (by decide)
  · refine a_iload_n dX12_look_8 rfl 2 rfl ?_
    refine a_cS_Pi (as := [.int p2]) (st := []) dX12_look_9 (c_X12_isSeason l g h0 p2) rfl km_X12_isSeason (hm_X12_isSeason) w_methodLink_RainCoverModel_221 w_static_RainCoverModel_isSeason__I_Z ⟨⟨by decide, by decide⟩, ⟨by decide, by decide⟩⟩ (Nat.le_of_ble_eq_true rfl) (fun v3 => ?_)
    refine a_if_ne 17 dX12_look_12 (by decide) (fun c4 => ?_) (fun c4 => ?_)
    · refine a_iconst (v := (-1)) dX12_look_15 (by decide) ?_
      exact a_iret dX12_look_16 rfl rfl (by decide) (by decide)
    · refine a_iload_n dX12_look_17 rfl 3 rfl ?_
      refine a_iconst (v := 0) dX12_look_18 (by decide) ?_
      refine a_sipush (v := 9999) dX12_look_19 (by decide) ?_
      refine a_cS_Pi (as := [.int p3, .int 0, .int 9999]) (st := []) dX12_look_22 (c_X12_in l g h0 p3 0 9999) rfl km_X12_in (hm_X12_in) w_methodLink_RainCoverModel_204 w_static_RainCoverModel_in__III_Z ⟨⟨by decide, by decide⟩, ⟨by decide, by decide⟩⟩ (Nat.le_of_ble_eq_true rfl) (fun v5 => ?_)
      refine a_if_eq 40 dX12_look_25 (by decide) (fun c6 => ?_) (fun c6 => ?_)
      · refine a_bipush (v := (-2)) dX12_look_40 (by decide) ?_
        exact a_iret dX12_look_42 rfl rfl (by decide) (by decide)
      · refine a_iload dX12_look_28 4 rfl ?_
        refine a_iconst (v := 0) dX12_look_30 (by decide) ?_
        refine a_sipush (v := 9999) dX12_look_31 (by decide) ?_
        refine a_cS_Pi (as := [.int p4, .int 0, .int 9999]) (st := []) dX12_look_34 (c_X12_in l g h0 p4 0 9999) rfl km_X12_in (hm_X12_in) w_methodLink_RainCoverModel_204 w_static_RainCoverModel_in__III_Z ⟨⟨by decide, by decide⟩, ⟨by decide, by decide⟩⟩ (Nat.le_of_ble_eq_true rfl) (fun v7 => ?_)
        refine a_if_ne 43 dX12_look_37 (by decide) (fun c8 => ?_) (fun c8 => ?_)
        · refine a_bipush (v := (-2)) dX12_look_40 (by decide) ?_
          exact a_iret dX12_look_42 rfl rfl (by decide) (by decide)
        · refine a_aload_n dX12_look_43 rfl 0 rfl ?_
          refine a_iload_n dX12_look_44 rfl 1 rfl ?_
          refine a_iload_n dX12_look_45 rfl 2 rfl ?_
          refine a_cV_Pi (r := p0) (ci := 13) (as := [.int p1, .int p2]) (st := []) dX12_look_46 (c_X12_lookOf l g h0 N p0 p1 p2) rfl km_X12_lookOf (hm_X12_lookOf) rfl (by decide) rfl (fun _ ee => g_X12_lookOf ee) w_methodLink_RainCoverModel_367 w_instanceMethod_RainCoverModel_lookOf__II_I w_selects_RainCoverModel_RainCoverModel_lookOf__II_I_RainCoverModel_lookOf__II_I ⟨⟨by decide, by decide⟩, ⟨by decide, by decide⟩⟩ (Nat.le_of_ble_eq_true rfl) (fun v9 => ?_)
          refine a_istore (lc2 := [(5, .int v9), (0, .ref p0), (1, .int p1), (2, .int p2), (3, .int p3), (4, .int p4)]) dX12_look_49 (by decide) rfl ?_
          refine a_iload dX12_look_51 0 rfl ?_
          refine a_iconst (v := (-1)) dX12_look_53 (by decide) ?_
          refine a_icmp_ne 69 dX12_look_54 (by decide) (fun c10 => ?_) (fun c10 => ?_)
          · refine a_aload_n dX12_look_57 rfl 1 rfl ?_
            refine a_geti kc13 41 dX12_look_58 (by decide) rfl w_fieldLink_RainCoverModel_364 (fun v11 => ?_)
            refine a_bipush (v := 80) dX12_look_61 (by decide) ?_
            refine a_icmp_ne 69 dX12_look_63 (by decide) (fun c12 => ?_) (fun c12 => ?_)
            · refine a_bipush (v := (-4)) dX12_look_66 (by decide) ?_
              exact a_iret dX12_look_68 rfl rfl (by decide) (by decide)
            · refine a_pick (lc2 := [(0, .ref p0), (1, .int p1), (2, .int p2), (3, .int p3), (4, .int p4), (5, .int v9)]) [1, 2, 3, 4, 5, 0] rfl ?_
              exact t_X12_look_b69 h0 N h0 p0 p1 p2 p3 p4 v9
          · refine a_pick (lc2 := [(0, .ref p0), (1, .int p1), (2, .int p2), (3, .int p3), (4, .int p4), (5, .int v9)]) [1, 2, 3, 4, 5, 0] rfl ?_
            exact t_X12_look_b69 h0 N h0 p0 p1 p2 p3 p4 v9
theorem dX12_common_0 : decode cX12_common 0 = .ok (.lload_n 0, 1) := by decide +kernel
theorem dX12_common_1 : decode cX12_common 1 = .ok (.lconst 0, 1) := by decide +kernel
theorem dX12_common_2 : decode cX12_common 2 = .ok (.lcmp, 1) := by decide +kernel
theorem dX12_common_3 : decode cX12_common 3 = .ok (.ifCond .ge 8, 3) := by decide +kernel
theorem dX12_common_6 : decode cX12_common 6 = .ok (.lload_n 0, 1) := by decide +kernel
theorem dX12_common_7 : decode cX12_common 7 = .ok (.lneg, 1) := by decide +kernel
theorem dX12_common_8 : decode cX12_common 8 = .ok (.goto 4, 3) := by decide +kernel
theorem dX12_common_11 : decode cX12_common 11 = .ok (.lload_n 0, 1) := by decide +kernel
theorem dX12_common_12 : decode cX12_common 12 = .ok (.lstore 4, 2) := by decide +kernel
theorem dX12_common_14 : decode cX12_common 14 = .ok (.lload_n 2, 1) := by decide +kernel
theorem dX12_common_15 : decode cX12_common 15 = .ok (.lstore 6, 2) := by decide +kernel
theorem dX12_common_17 : decode cX12_common 17 = .ok (.lload 6, 2) := by decide +kernel
theorem dX12_common_19 : decode cX12_common 19 = .ok (.lconst 0, 1) := by decide +kernel
theorem dX12_common_20 : decode cX12_common 20 = .ok (.lcmp, 1) := by decide +kernel
theorem dX12_common_21 : decode cX12_common 21 = .ok (.ifCond .eq 21, 3) := by decide +kernel
theorem dX12_common_24 : decode cX12_common 24 = .ok (.lload 4, 2) := by decide +kernel
theorem dX12_common_26 : decode cX12_common 26 = .ok (.lload 6, 2) := by decide +kernel
theorem dX12_common_28 : decode cX12_common 28 = .ok (.lrem, 1) := by decide +kernel
theorem dX12_common_29 : decode cX12_common 29 = .ok (.lstore 8, 2) := by decide +kernel
theorem dX12_common_31 : decode cX12_common 31 = .ok (.lload 6, 2) := by decide +kernel
theorem dX12_common_33 : decode cX12_common 33 = .ok (.lstore 4, 2) := by decide +kernel
theorem dX12_common_35 : decode cX12_common 35 = .ok (.lload 8, 2) := by decide +kernel
theorem dX12_common_37 : decode cX12_common 37 = .ok (.lstore 6, 2) := by decide +kernel
theorem dX12_common_39 : decode cX12_common 39 = .ok (.goto (-22), 3) := by decide +kernel
theorem dX12_common_42 : decode cX12_common 42 = .ok (.lload 4, 2) := by decide +kernel
theorem dX12_common_44 : decode cX12_common 44 = .ok (.lreturn, 1) := by decide +kernel
abbrev M_X12_common : MI := (RX12, cX12_common, 10, (some .long), ({ frames := 0, cells := 0, slots := 0, locals := 0 } : Room), 0, 0, false)
def f_X12_common_b17_body (h : AH) (N : Nat) (K17 : Int64 → Int64 → Option Int64) (x4 : Int64) (x6 : Int64) : Option Int64 := (if (lg_cmp x6 0) = 0 then some x4 else (if x6 = 0 then none else K17 x6 (x4 - x4 / x6 * x6)))
def f_X12_common_b17 (h : AH) (N : Nat) : Nat → Int64 → Int64 → Option Int64
  | 0, _, _ => none
  | n + 1, x4, x6 => f_X12_common_b17_body h N  (f_X12_common_b17 h N  n) x4 x6
def f_X12_common_b12 (h : AH) (N : Nat) (x2 : Int64) (s1 : Int64) : Option Int64 := f_X12_common_b17 h N N s1 x2
def f_X12_common (h : AH) (N : Nat) (p0 : Int64) (p1 : Int64) : Option Int64 := (if 0 ≤ (lg_cmp p0 0) then f_X12_common_b12 h N p1 p0 else f_X12_common_b12 h N p1 (-p0))
theorem km_X12_common : KM yX12_common M_X12_common 2 := ⟨in_tb 1683 (by decide +kernel) rfl, in_tb 9 (by decide +kernel) rfl, by decide +kernel, rfl, rfl⟩
theorem hm_X12_common : M_X12_common.2.2.2.2.2.1 = 0 ∧ M_X12_common.2.2.2.2.2.2.1 = 0 := ⟨rfl, rfl⟩
section
variable {l : Launch} {g : GG}
set_option maxRecDepth 100000 in
set_option maxHeartbeats 4000000 in
theorem t_X12_common_b17_body (h : AH) (N : Nat) (K17 : Int64 → Int64 → Option Int64) (hK17 : ∀ (z0 : Int64) (z1 : Int64), AO l g M_X12_common false h 17 [(4, .long z0), (6, .long z1)] [] h 0 0 (rPl h) (K17 z0 z1)) (x4 : Int64) (x6 : Int64) : AO l g M_X12_common false h 17 [(4, .long x4), (6, .long x6)] [] h 0 0 (rPl h) (f_X12_common_b17_body h N K17 x4 x6) := by
  unfold f_X12_common_b17_body
  refine a_lload dX12_common_17 1 rfl ?_
  refine a_lconst (v := 0) dX12_common_19 (by decide) ?_
  refine a_lcmp dX12_common_20 ?_
  refine a_if_eq 42 dX12_common_21 (by decide) (fun c2 => ?_) (fun c2 => ?_)
  · refine a_lload dX12_common_42 0 rfl ?_
    exact a_lret dX12_common_44 rfl rfl (by decide) (by decide)
  · refine a_lload dX12_common_24 0 rfl ?_
    refine a_lload dX12_common_26 1 rfl ?_
    refine a_lrem dX12_common_28 (fun c3 => ?_)
    refine a_lstore (lc2 := [(8, .long (x4 - x4 / x6 * x6)), (4, .long x4), (6, .long x6)]) dX12_common_29 (by decide) rfl ?_
    refine a_lload dX12_common_31 2 rfl ?_
    refine a_lstore (lc2 := [(4, .long x6), (8, .long (x4 - x4 / x6 * x6)), (6, .long x6)]) dX12_common_33 (by decide) rfl ?_
    refine a_lload dX12_common_35 1 rfl ?_
    refine a_lstore (lc2 := [(6, .long (x4 - x4 / x6 * x6)), (4, .long x6), (8, .long (x4 - x4 / x6 * x6))]) dX12_common_37 (by decide) rfl ?_
    refine a_goto 17 dX12_common_39 (by decide) ?_
    refine a_pick (lc2 := [(4, .long x6), (6, .long (x4 - x4 / x6 * x6))]) [1, 0] rfl ?_
    exact hK17 x6 (x4 - x4 / x6 * x6)
set_option maxRecDepth 100000 in
set_option maxHeartbeats 4000000 in
theorem t_X12_common_b17 (h : AH) (N : Nat) : ∀ (n : Nat) (x4 : Int64) (x6 : Int64) , AO l g M_X12_common false h 17 [(4, .long x4), (6, .long x6)] [] h 0 0 (rPl h) (f_X12_common_b17 h N  n x4 x6) := by
  intro n
  induction n with
  | zero => intro x4 x6; exact a_eq rfl a_none
  | succ n ih => intro x4 x6; exact a_eq rfl (t_X12_common_b17_body h N  (f_X12_common_b17 h N  n) ih x4 x6)
set_option maxRecDepth 100000 in
set_option maxHeartbeats 4000000 in
theorem t_X12_common_b12 (h : AH) (N : Nat) (x2 : Int64) (s1 : Int64) : AO l g M_X12_common false h 12 [(2, .long x2)] [.long s1] h 0 0 (rPl h) (f_X12_common_b12 h N  x2 s1) := by
  unfold f_X12_common_b12
  refine a_lstore (lc2 := [(4, .long s1), (2, .long x2)]) dX12_common_12 (by decide) rfl ?_
  refine a_lload_n dX12_common_14 rfl 1 rfl ?_
  refine a_lstore (lc2 := [(6, .long x2), (4, .long s1), (2, .long x2)]) dX12_common_15 (by decide) rfl ?_
  refine a_pick (lc2 := [(4, .long s1), (6, .long x2)]) [1, 0] rfl ?_
  exact t_X12_common_b17 h N N s1 x2
end
set_option maxRecDepth 100000 in
set_option maxHeartbeats 4000000 in
theorem c_X12_common (l : Launch) (g : GG) (h : AH) (N : Nat) (p0 : Int64) (p1 : Int64) : CN l g yX12_common M_X12_common false [.long p0, .long p1] h ((rPl h)) (f_X12_common h N p0 p1) := by
  refine CN.of (by decide) rfl (fun hh => by first | rfl | cases hh) (Nat.le_of_ble_eq_true rfl) ?_
  unfold f_X12_common
  refine a_lload_n dX12_common_0 rfl 0 rfl ?_
  refine a_lconst (v := 0) dX12_common_1 (by decide) ?_
  refine a_lcmp dX12_common_2 ?_
  refine a_if_ge 11 dX12_common_3 (by decide) (fun c1 => ?_) (fun c1 => ?_)
  · refine a_lload_n dX12_common_11 rfl 0 rfl ?_
    refine a_pick (lc2 := [(2, .long p1)]) [1] rfl ?_
    exact t_X12_common_b12 h N p1 p0
  · refine a_lload_n dX12_common_6 rfl 0 rfl ?_
    refine a_lneg dX12_common_7 ?_
    refine a_goto 12 dX12_common_8 (by decide) ?_
    refine a_pick (lc2 := [(2, .long p1)]) [1] rfl ?_
    exact t_X12_common_b12 h N p1 (-p0)
theorem dX12_part_0 : decode cX12_part 0 = .ok (.lload_n 0, 1) := by decide +kernel
theorem dX12_part_1 : decode cX12_part 1 = .ok (.lload_n 2, 1) := by decide +kernel
theorem dX12_part_2 : decode cX12_part 2 = .ok (.invokestatic 370, 3) := by decide +kernel
theorem dX12_part_5 : decode cX12_part 5 = .ok (.lstore 5, 2) := by decide +kernel
theorem dX12_part_7 : decode cX12_part 7 = .ok (.iload 4, 2) := by decide +kernel
theorem dX12_part_9 : decode cX12_part 9 = .ok (.ifCond .ne 10, 3) := by decide +kernel
theorem dX12_part_12 : decode cX12_part 12 = .ok (.lload_n 0, 1) := by decide +kernel
theorem dX12_part_13 : decode cX12_part 13 = .ok (.lload 5, 2) := by decide +kernel
theorem dX12_part_15 : decode cX12_part 15 = .ok (.ldiv, 1) := by decide +kernel
theorem dX12_part_16 : decode cX12_part 16 = .ok (.goto 7, 3) := by decide +kernel
theorem dX12_part_19 : decode cX12_part 19 = .ok (.lload_n 2, 1) := by decide +kernel
theorem dX12_part_20 : decode cX12_part 20 = .ok (.lload 5, 2) := by decide +kernel
theorem dX12_part_22 : decode cX12_part 22 = .ok (.ldiv, 1) := by decide +kernel
theorem dX12_part_23 : decode cX12_part 23 = .ok (.lreturn, 1) := by decide +kernel
abbrev M_X12_part : MI := (RX12, cX12_part, 7, (some .long), ({ frames := 1, cells := 0, slots := 0, locals := 29 } : Room), 0, 0, false)
def f_X12_part (h : AH) (N : Nat) (p0 : Int64) (p1 : Int64) (p2 : Int32) : Option Int64 := (f_X12_common h N p0 p1).bind fun v1 => (if p2 = 0 then (if v1 = 0 then none else some (p0 / v1)) else (if v1 = 0 then none else some (p1 / v1)))
theorem km_X12_part : KM yX12_part M_X12_part 3 := ⟨in_tb 1680 (by decide +kernel) rfl, in_tb 9 (by decide +kernel) rfl, by decide +kernel, rfl, rfl⟩
theorem hm_X12_part : M_X12_part.2.2.2.2.2.1 = 0 ∧ M_X12_part.2.2.2.2.2.2.1 = 0 := ⟨rfl, rfl⟩
section
variable {l : Launch} {g : GG}
end
set_option maxRecDepth 100000 in
set_option maxHeartbeats 4000000 in
theorem c_X12_part (l : Launch) (g : GG) (h : AH) (N : Nat) (p0 : Int64) (p1 : Int64) (p2 : Int32) : CN l g yX12_part M_X12_part false [.long p0, .long p1, .int p2] h ((rPl h)) (f_X12_part h N p0 p1 p2) := by
  refine CN.of (by decide) rfl (fun hh => by first | rfl | cases hh) (Nat.le_of_ble_eq_true rfl) ?_
  unfold f_X12_part
  refine a_lload_n dX12_part_0 rfl 0 rfl ?_
  refine a_lload_n dX12_part_1 rfl 1 rfl ?_
  refine a_cS_Pl (as := [.long p0, .long p1]) (st := []) dX12_part_2 (c_X12_common l g h N p0 p1) rfl km_X12_common (hm_X12_common) w_methodLink_RainCoverModel_370 w_static_RainCoverModel_common__JJ_J ⟨⟨by decide, by decide⟩, ⟨by decide, by decide⟩⟩ (Nat.le_of_ble_eq_true rfl) (fun v1 => ?_)
  refine a_lstore (lc2 := [(5, .long v1), (0, .long p0), (2, .long p1), (4, .int p2)]) dX12_part_5 (by decide) rfl ?_
  refine a_iload dX12_part_7 3 rfl ?_
  refine a_if_ne 19 dX12_part_9 (by decide) (fun c2 => ?_) (fun c2 => ?_)
  · refine a_lload_n dX12_part_12 rfl 1 rfl ?_
    refine a_lload dX12_part_13 0 rfl ?_
    refine a_ldiv dX12_part_15 (fun c3 => ?_)
    refine a_goto 23 dX12_part_16 (by decide) ?_
    exact a_lret dX12_part_23 rfl rfl (by decide) (by decide)
  · refine a_lload_n dX12_part_19 rfl 2 rfl ?_
    refine a_lload dX12_part_20 0 rfl ?_
    refine a_ldiv dX12_part_22 (fun c4 => ?_)
    exact a_lret dX12_part_23 rfl rfl (by decide) (by decide)
theorem dX12_basis_0 : decode cX12_basis 0 = .ok (.aload_n 0, 1) := by decide +kernel
theorem dX12_basis_1 : decode cX12_basis 1 = .ok (.iload_n 1, 1) := by decide +kernel
theorem dX12_basis_2 : decode cX12_basis 2 = .ok (.invokevirtual 328, 3) := by decide +kernel
theorem dX12_basis_5 : decode cX12_basis 5 = .ok (.ifCond .eq 21, 3) := by decide +kernel
theorem dX12_basis_8 : decode cX12_basis 8 = .ok (.iload_n 2, 1) := by decide +kernel
theorem dX12_basis_9 : decode cX12_basis 9 = .ok (.iconst 0, 1) := by decide +kernel
theorem dX12_basis_10 : decode cX12_basis 10 = .ok (.iconst 3, 1) := by decide +kernel
theorem dX12_basis_11 : decode cX12_basis 11 = .ok (.invokestatic 204, 3) := by decide +kernel
theorem dX12_basis_14 : decode cX12_basis 14 = .ok (.ifCond .eq 12, 3) := by decide +kernel
theorem dX12_basis_17 : decode cX12_basis 17 = .ok (.iload_n 3, 1) := by decide +kernel
theorem dX12_basis_18 : decode cX12_basis 18 = .ok (.iconst 0, 1) := by decide +kernel
theorem dX12_basis_19 : decode cX12_basis 19 = .ok (.iconst 1, 1) := by decide +kernel
theorem dX12_basis_20 : decode cX12_basis 20 = .ok (.invokestatic 204, 3) := by decide +kernel
theorem dX12_basis_23 : decode cX12_basis 23 = .ok (.ifCond .ne 7, 3) := by decide +kernel
theorem dX12_basis_26 : decode cX12_basis 26 = .ok (.ldc2_w 374, 3) := by decide +kernel
theorem dX12_basis_29 : decode cX12_basis 29 = .ok (.lreturn, 1) := by decide +kernel
theorem dX12_basis_30 : decode cX12_basis 30 = .ok (.lconst 0, 1) := by decide +kernel
theorem dX12_basis_31 : decode cX12_basis 31 = .ok (.lstore 4, 2) := by decide +kernel
theorem dX12_basis_33 : decode cX12_basis 33 = .ok (.iconst 0, 1) := by decide +kernel
theorem dX12_basis_34 : decode cX12_basis 34 = .ok (.istore 6, 2) := by decide +kernel
theorem dX12_basis_36 : decode cX12_basis 36 = .ok (.iconst 0, 1) := by decide +kernel
theorem dX12_basis_37 : decode cX12_basis 37 = .ok (.istore 7, 2) := by decide +kernel
theorem dX12_basis_39 : decode cX12_basis 39 = .ok (.iload 7, 2) := by decide +kernel
theorem dX12_basis_41 : decode cX12_basis 41 = .ok (.aload_n 0, 1) := by decide +kernel
theorem dX12_basis_42 : decode cX12_basis 42 = .ok (.getfield 364, 3) := by decide +kernel
theorem dX12_basis_45 : decode cX12_basis 45 = .ok (.if_icmp .ge 145, 3) := by decide +kernel
theorem dX12_basis_48 : decode cX12_basis 48 = .ok (.aload_n 0, 1) := by decide +kernel
theorem dX12_basis_49 : decode cX12_basis 49 = .ok (.getfield 121, 3) := by decide +kernel
theorem dX12_basis_52 : decode cX12_basis 52 = .ok (.iload 7, 2) := by decide +kernel
theorem dX12_basis_54 : decode cX12_basis 54 = .ok (.iaload, 1) := by decide +kernel
theorem dX12_basis_55 : decode cX12_basis 55 = .ok (.istore 8, 2) := by decide +kernel
theorem dX12_basis_57 : decode cX12_basis 57 = .ok (.aload_n 0, 1) := by decide +kernel
theorem dX12_basis_58 : decode cX12_basis 58 = .ok (.iload 8, 2) := by decide +kernel
theorem dX12_basis_60 : decode cX12_basis 60 = .ok (.aload_n 0, 1) := by decide +kernel
theorem dX12_basis_61 : decode cX12_basis 61 = .ok (.getfield 124, 3) := by decide +kernel
theorem dX12_basis_64 : decode cX12_basis 64 = .ok (.iload 7, 2) := by decide +kernel
theorem dX12_basis_66 : decode cX12_basis 66 = .ok (.iaload, 1) := by decide +kernel
theorem dX12_basis_67 : decode cX12_basis 67 = .ok (.invokevirtual 349, 3) := by decide +kernel
theorem dX12_basis_70 : decode cX12_basis 70 = .ok (.istore 9, 2) := by decide +kernel
theorem dX12_basis_72 : decode cX12_basis 72 = .ok (.iload 9, 2) := by decide +kernel
theorem dX12_basis_74 : decode cX12_basis 74 = .ok (.iconst (-1), 1) := by decide +kernel
theorem dX12_basis_75 : decode cX12_basis 75 = .ok (.if_icmp .ne 7, 3) := by decide +kernel
theorem dX12_basis_78 : decode cX12_basis 78 = .ok (.iconst (-1), 1) := by decide +kernel
theorem dX12_basis_79 : decode cX12_basis 79 = .ok (.goto 26, 3) := by decide +kernel
theorem dX12_basis_82 : decode cX12_basis 82 = .ok (.aload_n 0, 1) := by decide +kernel
theorem dX12_basis_83 : decode cX12_basis 83 = .ok (.iload 8, 2) := by decide +kernel
theorem dX12_basis_85 : decode cX12_basis 85 = .ok (.aload_n 0, 1) := by decide +kernel
theorem dX12_basis_86 : decode cX12_basis 86 = .ok (.getfield 9, 3) := by decide +kernel
theorem dX12_basis_89 : decode cX12_basis 89 = .ok (.iload 9, 2) := by decide +kernel
theorem dX12_basis_91 : decode cX12_basis 91 = .ok (.iaload, 1) := by decide +kernel
theorem dX12_basis_92 : decode cX12_basis 92 = .ok (.aload_n 0, 1) := by decide +kernel
theorem dX12_basis_93 : decode cX12_basis 93 = .ok (.getfield 15, 3) := by decide +kernel
theorem dX12_basis_96 : decode cX12_basis 96 = .ok (.iload 9, 2) := by decide +kernel
theorem dX12_basis_98 : decode cX12_basis 98 = .ok (.iaload, 1) := by decide +kernel
theorem dX12_basis_99 : decode cX12_basis 99 = .ok (.invokevirtual 334, 3) := by decide +kernel
theorem dX12_basis_102 : decode cX12_basis 102 = .ok (.bipush 20, 2) := by decide +kernel
theorem dX12_basis_104 : decode cX12_basis 104 = .ok (.idiv, 1) := by decide +kernel
theorem dX12_basis_105 : decode cX12_basis 105 = .ok (.istore 10, 2) := by decide +kernel
theorem dX12_basis_107 : decode cX12_basis 107 = .ok (.iload 9, 2) := by decide +kernel
theorem dX12_basis_109 : decode cX12_basis 109 = .ok (.iconst (-1), 1) := by decide +kernel
theorem dX12_basis_110 : decode cX12_basis 110 = .ok (.if_icmp .eq 74, 3) := by decide +kernel
theorem dX12_basis_113 : decode cX12_basis 113 = .ok (.iload 10, 2) := by decide +kernel
theorem dX12_basis_115 : decode cX12_basis 115 = .ok (.iconst 3, 1) := by decide +kernel
theorem dX12_basis_116 : decode cX12_basis 116 = .ok (.if_icmp .le 7, 3) := by decide +kernel
theorem dX12_basis_119 : decode cX12_basis 119 = .ok (.iconst 3, 1) := by decide +kernel
theorem dX12_basis_120 : decode cX12_basis 120 = .ok (.goto 5, 3) := by decide +kernel
theorem dX12_basis_123 : decode cX12_basis 123 = .ok (.iload 10, 2) := by decide +kernel
theorem dX12_basis_125 : decode cX12_basis 125 = .ok (.iload_n 2, 1) := by decide +kernel
theorem dX12_basis_126 : decode cX12_basis 126 = .ok (.if_icmp .ne 58, 3) := by decide +kernel
theorem dX12_basis_129 : decode cX12_basis 129 = .ok (.aload_n 0, 1) := by decide +kernel
theorem dX12_basis_130 : decode cX12_basis 130 = .ok (.iconst 0, 1) := by decide +kernel
theorem dX12_basis_131 : decode cX12_basis 131 = .ok (.iload 8, 2) := by decide +kernel
theorem dX12_basis_133 : decode cX12_basis 133 = .ok (.aload_n 0, 1) := by decide +kernel
theorem dX12_basis_134 : decode cX12_basis 134 = .ok (.getfield 124, 3) := by decide +kernel
theorem dX12_basis_137 : decode cX12_basis 137 = .ok (.iload 7, 2) := by decide +kernel
theorem dX12_basis_139 : decode cX12_basis 139 = .ok (.iaload, 1) := by decide +kernel
theorem dX12_basis_140 : decode cX12_basis 140 = .ok (.iload_n 1, 1) := by decide +kernel
theorem dX12_basis_141 : decode cX12_basis 141 = .ok (.invokevirtual 358, 3) := by decide +kernel
theorem dX12_basis_144 : decode cX12_basis 144 = .ok (.aload_n 0, 1) := by decide +kernel
theorem dX12_basis_145 : decode cX12_basis 145 = .ok (.getfield 127, 3) := by decide +kernel
theorem dX12_basis_148 : decode cX12_basis 148 = .ok (.iload 7, 2) := by decide +kernel
theorem dX12_basis_150 : decode cX12_basis 150 = .ok (.iaload, 1) := by decide +kernel
theorem dX12_basis_151 : decode cX12_basis 151 = .ok (.invokestatic 257, 3) := by decide +kernel
theorem dX12_basis_154 : decode cX12_basis 154 = .ok (.aload_n 0, 1) := by decide +kernel
theorem dX12_basis_155 : decode cX12_basis 155 = .ok (.getfield 130, 3) := by decide +kernel
theorem dX12_basis_158 : decode cX12_basis 158 = .ok (.iload 7, 2) := by decide +kernel
theorem dX12_basis_160 : decode cX12_basis 160 = .ok (.iaload, 1) := by decide +kernel
theorem dX12_basis_161 : decode cX12_basis 161 = .ok (.isub, 1) := by decide +kernel
theorem dX12_basis_162 : decode cX12_basis 162 = .ok (.istore 11, 2) := by decide +kernel
theorem dX12_basis_164 : decode cX12_basis 164 = .ok (.lload 4, 2) := by decide +kernel
theorem dX12_basis_166 : decode cX12_basis 166 = .ok (.iload 11, 2) := by decide +kernel
theorem dX12_basis_168 : decode cX12_basis 168 = .ok (.ifCond .le 9, 3) := by decide +kernel
theorem dX12_basis_171 : decode cX12_basis 171 = .ok (.iload 11, 2) := by decide +kernel
theorem dX12_basis_173 : decode cX12_basis 173 = .ok (.i2l, 1) := by decide +kernel
theorem dX12_basis_174 : decode cX12_basis 174 = .ok (.goto 4, 3) := by decide +kernel
theorem dX12_basis_177 : decode cX12_basis 177 = .ok (.lconst 0, 1) := by decide +kernel
theorem dX12_basis_178 : decode cX12_basis 178 = .ok (.ladd, 1) := by decide +kernel
theorem dX12_basis_179 : decode cX12_basis 179 = .ok (.lstore 4, 2) := by decide +kernel
theorem dX12_basis_181 : decode cX12_basis 181 = .ok (.iinc 6 1, 3) := by decide +kernel
theorem dX12_basis_184 : decode cX12_basis 184 = .ok (.iinc 7 1, 3) := by decide +kernel
theorem dX12_basis_187 : decode cX12_basis 187 = .ok (.goto (-148), 3) := by decide +kernel
theorem dX12_basis_190 : decode cX12_basis 190 = .ok (.iload 6, 2) := by decide +kernel
theorem dX12_basis_192 : decode cX12_basis 192 = .ok (.ifCond .ne 9, 3) := by decide +kernel
theorem dX12_basis_195 : decode cX12_basis 195 = .ok (.ldc2_w 374, 3) := by decide +kernel
theorem dX12_basis_198 : decode cX12_basis 198 = .ok (.goto 12, 3) := by decide +kernel
theorem dX12_basis_201 : decode cX12_basis 201 = .ok (.lload 4, 2) := by decide +kernel
theorem dX12_basis_203 : decode cX12_basis 203 = .ok (.iload 6, 2) := by decide +kernel
theorem dX12_basis_205 : decode cX12_basis 205 = .ok (.i2l, 1) := by decide +kernel
theorem dX12_basis_206 : decode cX12_basis 206 = .ok (.iload_n 3, 1) := by decide +kernel
theorem dX12_basis_207 : decode cX12_basis 207 = .ok (.invokestatic 376, 3) := by decide +kernel
theorem dX12_basis_210 : decode cX12_basis 210 = .ok (.lreturn, 1) := by decide +kernel
abbrev M_X12_basis : MI := (RX12, cX12_basis, 12, (some .long), ({ frames := 8, cells := 0, slots := 0, locals := 204 } : Room), 0, 0, false)
def f_X12_basis_b184 (h : AH) (N : Nat) (K39 : Nat → Int32 → Int32 → Int32 → Int64 → Int32 → Int32 → Option Int64) (x0 : Nat) (x1 : Int32) (x2 : Int32) (x3 : Int32) (x4 : Int64) (x6 : Int32) (x7 : Int32) : Option Int64 := K39 x0 x1 x2 x3 x4 x6 (x7 + 1)
def f_X12_basis_b178 (h : AH) (N : Nat) (K39 : Nat → Int32 → Int32 → Int32 → Int64 → Int32 → Int32 → Option Int64) (x0 : Nat) (x1 : Int32) (x2 : Int32) (x3 : Int32) (x6 : Int32) (x7 : Int32) (s6 : Int64) (s7 : Int64) : Option Int64 := f_X12_basis_b184 h N K39 x0 x1 x2 x3 (s7 + s6) (x6 + 1) x7
def f_X12_basis_b125 (h : AH) (N : Nat) (K39 : Nat → Int32 → Int32 → Int32 → Int64 → Int32 → Int32 → Option Int64) (x0 : Nat) (x1 : Int32) (x2 : Int32) (x3 : Int32) (x4 : Int64) (x6 : Int32) (x7 : Int32) (x8 : Int32) (s8 : Int32) : Option Int64 := (if s8 = x2 then (xgr h x0 13 43).bind fun v26 => (xia h v26 x7).bind fun v27 => (f_X12_farmPay h N x0 0 x8 v27 x1).bind fun v28 => (xgr h x0 13 44).bind fun v29 => (xia h v29 x7).bind fun v30 => (f_X12_apart h v28 v30).bind fun v31 => (xgr h x0 13 45).bind fun v32 => (xia h v32 x7).bind fun v33 => (if (v31 - v33) ≤ 0 then f_X12_basis_b178 h N K39 x0 x1 x2 x3 x6 x7 0 x4 else f_X12_basis_b178 h N K39 x0 x1 x2 x3 x6 x7 ((v31 - v33) : Int32).toInt64 x4) else f_X12_basis_b184 h N K39 x0 x1 x2 x3 x4 x6 x7)
def f_X12_basis_b105 (h : AH) (N : Nat) (K39 : Nat → Int32 → Int32 → Int32 → Int64 → Int32 → Int32 → Option Int64) (x0 : Nat) (x1 : Int32) (x2 : Int32) (x3 : Int32) (x4 : Int64) (x6 : Int32) (x7 : Int32) (x8 : Int32) (x9 : Int32) (s9 : Int32) : Option Int64 := (if x9 = (-1) then f_X12_basis_b184 h N K39 x0 x1 x2 x3 x4 x6 x7 else (if s9 ≤ 3 then f_X12_basis_b125 h N K39 x0 x1 x2 x3 x4 x6 x7 x8 s9 else f_X12_basis_b125 h N K39 x0 x1 x2 x3 x4 x6 x7 x8 3))
def f_X12_basis_b39_body (h : AH) (N : Nat) (K39 : Nat → Int32 → Int32 → Int32 → Int64 → Int32 → Int32 → Option Int64) (x0 : Nat) (x1 : Int32) (x2 : Int32) (x3 : Int32) (x4 : Int64) (x6 : Int32) (x7 : Int32) : Option Int64 := (xgi h x0 13 41).bind fun v7 => (if v7 ≤ x7 then (if x6 = 0 then some (-9223372036854775808) else (f_X12_part h N x4 (x6 : Int32).toInt64 x3).bind fun v10 => some v10) else (xgr h x0 13 42).bind fun v11 => (xia h v11 x7).bind fun v12 => (xgr h x0 13 43).bind fun v13 => (xia h v13 x7).bind fun v14 => (f_X12_gaugeOf h N x0 v12 v14).bind fun v15 => (if v15 = (-1) then f_X12_basis_b105 h N K39 x0 x1 x2 x3 x4 x6 x7 v12 v15 (-1) else (xgr h x0 13 1).bind fun v17 => (xia h v17 v15).bind fun v18 => (xgr h x0 13 2).bind fun v19 => (xia h v19 v15).bind fun v20 => (f_X12_farFrom h x0 v12 v18 v20).bind fun v21 => (if 20 = 0 then none else f_X12_basis_b105 h N K39 x0 x1 x2 x3 x4 x6 x7 v12 v15 (v21 / 20))))
def f_X12_basis_b39 (h : AH) (N : Nat) : Nat → Nat → Int32 → Int32 → Int32 → Int64 → Int32 → Int32 → Option Int64
  | 0, _, _, _, _, _, _, _ => none
  | n + 1, x0, x1, x2, x3, x4, x6, x7 => f_X12_basis_b39_body h N  (f_X12_basis_b39 h N  n) x0 x1 x2 x3 x4 x6 x7
def f_X12_basis (h : AH) (N : Nat) (p0 : Nat) (p1 : Int32) (p2 : Int32) (p3 : Int32) : Option Int64 := if kd h p0 = 13 + 1 then (f_X12_isTerm h p0 p1).bind fun v1 => (if v1 = 0 then some (-9223372036854775808) else (f_X12_in h p2 0 3).bind fun v3 => (if v3 = 0 then some (-9223372036854775808) else (f_X12_in h p3 0 1).bind fun v5 => (if v5 = 0 then some (-9223372036854775808) else f_X12_basis_b39 h N N p0 p1 p2 p3 0 0 0))) else none
theorem g_X12_basis {h : AH} {N : Nat} {p0 : Nat} {p1 : Int32} {p2 : Int32} {p3 : Int32} {x : Int64} (e : f_X12_basis h N p0 p1 p2 p3 = some x) : kd h p0 = 13 + 1 := by
  unfold f_X12_basis at e
  by_cases hk : kd h p0 = 13 + 1
  · exact hk
  · rw [if_neg hk] at e
    cases e
theorem km_X12_basis : KM yX12_basis M_X12_basis 3 := ⟨in_tb 1676 (by decide +kernel) rfl, in_tb 9 (by decide +kernel) rfl, by decide +kernel, rfl, rfl⟩
theorem hm_X12_basis : M_X12_basis.2.2.2.2.2.1 = 0 ∧ M_X12_basis.2.2.2.2.2.2.1 = 0 := ⟨rfl, rfl⟩
section
variable {l : Launch} {g : GG}
set_option maxRecDepth 100000 in
set_option maxHeartbeats 4000000 in
theorem t_X12_basis_b184 (h : AH) (N : Nat) (K39 : Nat → Int32 → Int32 → Int32 → Int64 → Int32 → Int32 → Option Int64) (hK39 : ∀ (z0 : Nat) (z1 : Int32) (z2 : Int32) (z3 : Int32) (z4 : Int64) (z5 : Int32) (z6 : Int32), AO l g M_X12_basis false h 39 [(0, .ref z0), (1, .int z1), (2, .int z2), (3, .int z3), (4, .long z4), (6, .int z5), (7, .int z6)] [] h 0 0 (rPl h) (K39 z0 z1 z2 z3 z4 z5 z6)) (x0 : Nat) (x1 : Int32) (x2 : Int32) (x3 : Int32) (x4 : Int64) (x6 : Int32) (x7 : Int32) : AO l g M_X12_basis false h 184 [(0, .ref x0), (1, .int x1), (2, .int x2), (3, .int x3), (4, .long x4), (6, .int x6), (7, .int x7)] [] h 0 0 (rPl h) (f_X12_basis_b184 h N K39 x0 x1 x2 x3 x4 x6 x7) := by
  unfold f_X12_basis_b184
  refine a_iinc (q := 6) (v := (x7 + 1)) (lc2 := [(7, .int (x7 + 1)), (0, .ref x0), (1, .int x1), (2, .int x2), (3, .int x3), (4, .long x4), (6, .int x6)]) dX12_basis_184 rfl rfl (by decide) rfl ?_
  refine a_goto 39 dX12_basis_187 (by decide) ?_
  refine a_pick (lc2 := [(0, .ref x0), (1, .int x1), (2, .int x2), (3, .int x3), (4, .long x4), (6, .int x6), (7, .int (x7 + 1))]) [1, 2, 3, 4, 5, 6, 0] rfl ?_
  exact hK39 x0 x1 x2 x3 x4 x6 (x7 + 1)
set_option maxRecDepth 100000 in
set_option maxHeartbeats 4000000 in
theorem t_X12_basis_b178 (h : AH) (N : Nat) (K39 : Nat → Int32 → Int32 → Int32 → Int64 → Int32 → Int32 → Option Int64) (hK39 : ∀ (z0 : Nat) (z1 : Int32) (z2 : Int32) (z3 : Int32) (z4 : Int64) (z5 : Int32) (z6 : Int32), AO l g M_X12_basis false h 39 [(0, .ref z0), (1, .int z1), (2, .int z2), (3, .int z3), (4, .long z4), (6, .int z5), (7, .int z6)] [] h 0 0 (rPl h) (K39 z0 z1 z2 z3 z4 z5 z6)) (x0 : Nat) (x1 : Int32) (x2 : Int32) (x3 : Int32) (x6 : Int32) (x7 : Int32) (s6 : Int64) (s7 : Int64) : AO l g M_X12_basis false h 178 [(0, .ref x0), (1, .int x1), (2, .int x2), (3, .int x3), (6, .int x6), (7, .int x7)] [.long s6, .long s7] h 0 0 (rPl h) (f_X12_basis_b178 h N K39 x0 x1 x2 x3 x6 x7 s6 s7) := by
  unfold f_X12_basis_b178
  refine a_ladd dX12_basis_178 ?_
  refine a_lstore (lc2 := [(4, .long (s7 + s6)), (0, .ref x0), (1, .int x1), (2, .int x2), (3, .int x3), (6, .int x6), (7, .int x7)]) dX12_basis_179 (by decide) rfl ?_
  refine a_iinc (q := 5) (v := (x6 + 1)) (lc2 := [(6, .int (x6 + 1)), (4, .long (s7 + s6)), (0, .ref x0), (1, .int x1), (2, .int x2), (3, .int x3), (7, .int x7)]) dX12_basis_181 rfl rfl (by decide) rfl ?_
  refine a_pick (lc2 := [(0, .ref x0), (1, .int x1), (2, .int x2), (3, .int x3), (4, .long (s7 + s6)), (6, .int (x6 + 1)), (7, .int x7)]) [2, 3, 4, 5, 1, 0, 6] rfl ?_
  exact t_X12_basis_b184 h N K39 hK39 x0 x1 x2 x3 (s7 + s6) (x6 + 1) x7
set_option maxRecDepth 100000 in
set_option maxHeartbeats 4000000 in
theorem t_X12_basis_b125 (h : AH) (N : Nat) (K39 : Nat → Int32 → Int32 → Int32 → Int64 → Int32 → Int32 → Option Int64) (hK39 : ∀ (z0 : Nat) (z1 : Int32) (z2 : Int32) (z3 : Int32) (z4 : Int64) (z5 : Int32) (z6 : Int32), AO l g M_X12_basis false h 39 [(0, .ref z0), (1, .int z1), (2, .int z2), (3, .int z3), (4, .long z4), (6, .int z5), (7, .int z6)] [] h 0 0 (rPl h) (K39 z0 z1 z2 z3 z4 z5 z6)) (x0 : Nat) (x1 : Int32) (x2 : Int32) (x3 : Int32) (x4 : Int64) (x6 : Int32) (x7 : Int32) (x8 : Int32) (s8 : Int32) : AO l g M_X12_basis false h 125 [(0, .ref x0), (1, .int x1), (2, .int x2), (3, .int x3), (4, .long x4), (6, .int x6), (7, .int x7), (8, .int x8)] [.int s8] h 0 0 (rPl h) (f_X12_basis_b125 h N K39 x0 x1 x2 x3 x4 x6 x7 x8 s8) := by
  unfold f_X12_basis_b125
  refine a_iload_n dX12_basis_125 rfl 2 rfl ?_
  refine a_icmp_ne 184 dX12_basis_126 (by decide) (fun c25 => ?_) (fun c25 => ?_)
  · refine a_aload_n dX12_basis_129 rfl 0 rfl ?_
    refine a_iconst (v := 0) dX12_basis_130 (by decide) ?_
    refine a_iload dX12_basis_131 7 rfl ?_
    refine a_aload_n dX12_basis_133 rfl 0 rfl ?_
    refine a_getr kc13 43 dX12_basis_134 (by decide) rfl w_fieldLink_RainCoverModel_124 (fun v26 => ?_)
    refine a_iload dX12_basis_137 6 rfl ?_
    refine a_iald dX12_basis_139 (fun v27 => ?_)
    refine a_iload_n dX12_basis_140 rfl 1 rfl ?_
    refine a_cV_Pi (r := x0) (ci := 13) (as := [.int 0, .int x8, .int v27, .int x1]) (st := []) dX12_basis_141 (c_X12_farmPay l g h N x0 0 x8 v27 x1) rfl km_X12_farmPay (hm_X12_farmPay) rfl (by decide) rfl (fun _ ee => g_X12_farmPay ee) w_methodLink_RainCoverModel_358 w_instanceMethod_RainCoverModel_farmPay__IIII_I w_selects_RainCoverModel_RainCoverModel_farmPay__IIII_I_RainCoverModel_farmPay__IIII_I ⟨⟨by decide, by decide⟩, ⟨by decide, by decide⟩⟩ (Nat.le_of_ble_eq_true rfl) (fun v28 => ?_)
    refine a_aload_n dX12_basis_144 rfl 0 rfl ?_
    refine a_getr kc13 44 dX12_basis_145 (by decide) rfl w_fieldLink_RainCoverModel_127 (fun v29 => ?_)
    refine a_iload dX12_basis_148 6 rfl ?_
    refine a_iald dX12_basis_150 (fun v30 => ?_)
    refine a_cS_Pi (as := [.int v28, .int v30]) (st := []) dX12_basis_151 (c_X12_apart l g h v28 v30) rfl km_X12_apart (hm_X12_apart) w_methodLink_RainCoverModel_257 w_static_RainCoverModel_apart__II_I ⟨⟨by decide, by decide⟩, ⟨by decide, by decide⟩⟩ (Nat.le_of_ble_eq_true rfl) (fun v31 => ?_)
    refine a_aload_n dX12_basis_154 rfl 0 rfl ?_
    refine a_getr kc13 45 dX12_basis_155 (by decide) rfl w_fieldLink_RainCoverModel_130 (fun v32 => ?_)
    refine a_iload dX12_basis_158 6 rfl ?_
    refine a_iald dX12_basis_160 (fun v33 => ?_)
    refine a_isub dX12_basis_161 ?_
    refine a_istore (lc2 := [(11, .int (v31 - v33)), (0, .ref x0), (1, .int x1), (2, .int x2), (3, .int x3), (4, .long x4), (6, .int x6), (7, .int x7), (8, .int x8)]) dX12_basis_162 (by decide) rfl ?_
    refine a_lload dX12_basis_164 5 rfl ?_
    refine a_iload dX12_basis_166 0 rfl ?_
    refine a_if_le 177 dX12_basis_168 (by decide) (fun c34 => ?_) (fun c34 => ?_)
    · refine a_lconst (v := 0) dX12_basis_177 (by decide) ?_
      refine a_pick (lc2 := [(0, .ref x0), (1, .int x1), (2, .int x2), (3, .int x3), (6, .int x6), (7, .int x7)]) [1, 2, 3, 4, 6, 7] rfl ?_
      exact t_X12_basis_b178 h N K39 hK39 x0 x1 x2 x3 x6 x7 0 x4
    · refine a_iload dX12_basis_171 0 rfl ?_
      refine a_i2l dX12_basis_173 ?_
      refine a_goto 178 dX12_basis_174 (by decide) ?_
      refine a_pick (lc2 := [(0, .ref x0), (1, .int x1), (2, .int x2), (3, .int x3), (6, .int x6), (7, .int x7)]) [1, 2, 3, 4, 6, 7] rfl ?_
      exact t_X12_basis_b178 h N K39 hK39 x0 x1 x2 x3 x6 x7 ((v31 - v33) : Int32).toInt64 x4
  · refine a_pick (lc2 := [(0, .ref x0), (1, .int x1), (2, .int x2), (3, .int x3), (4, .long x4), (6, .int x6), (7, .int x7)]) [0, 1, 2, 3, 4, 5, 6] rfl ?_
    exact t_X12_basis_b184 h N K39 hK39 x0 x1 x2 x3 x4 x6 x7
set_option maxRecDepth 100000 in
set_option maxHeartbeats 4000000 in
theorem t_X12_basis_b105 (h : AH) (N : Nat) (K39 : Nat → Int32 → Int32 → Int32 → Int64 → Int32 → Int32 → Option Int64) (hK39 : ∀ (z0 : Nat) (z1 : Int32) (z2 : Int32) (z3 : Int32) (z4 : Int64) (z5 : Int32) (z6 : Int32), AO l g M_X12_basis false h 39 [(0, .ref z0), (1, .int z1), (2, .int z2), (3, .int z3), (4, .long z4), (6, .int z5), (7, .int z6)] [] h 0 0 (rPl h) (K39 z0 z1 z2 z3 z4 z5 z6)) (x0 : Nat) (x1 : Int32) (x2 : Int32) (x3 : Int32) (x4 : Int64) (x6 : Int32) (x7 : Int32) (x8 : Int32) (x9 : Int32) (s9 : Int32) : AO l g M_X12_basis false h 105 [(0, .ref x0), (1, .int x1), (2, .int x2), (3, .int x3), (4, .long x4), (6, .int x6), (7, .int x7), (8, .int x8), (9, .int x9)] [.int s9] h 0 0 (rPl h) (f_X12_basis_b105 h N K39 x0 x1 x2 x3 x4 x6 x7 x8 x9 s9) := by
  unfold f_X12_basis_b105
  refine a_istore (lc2 := [(10, .int s9), (0, .ref x0), (1, .int x1), (2, .int x2), (3, .int x3), (4, .long x4), (6, .int x6), (7, .int x7), (8, .int x8), (9, .int x9)]) dX12_basis_105 (by decide) rfl ?_
  refine a_iload dX12_basis_107 9 rfl ?_
  refine a_iconst (v := (-1)) dX12_basis_109 (by decide) ?_
  refine a_icmp_eq 184 dX12_basis_110 (by decide) (fun c23 => ?_) (fun c23 => ?_)
  · refine a_pick (lc2 := [(0, .ref x0), (1, .int x1), (2, .int x2), (3, .int x3), (4, .long x4), (6, .int x6), (7, .int x7)]) [1, 2, 3, 4, 5, 6, 7] rfl ?_
    exact t_X12_basis_b184 h N K39 hK39 x0 x1 x2 x3 x4 x6 x7
  · refine a_iload dX12_basis_113 0 rfl ?_
    refine a_iconst (v := 3) dX12_basis_115 (by decide) ?_
    refine a_icmp_le 123 dX12_basis_116 (by decide) (fun c24 => ?_) (fun c24 => ?_)
    · refine a_iload dX12_basis_123 0 rfl ?_
      refine a_pick (lc2 := [(0, .ref x0), (1, .int x1), (2, .int x2), (3, .int x3), (4, .long x4), (6, .int x6), (7, .int x7), (8, .int x8)]) [1, 2, 3, 4, 5, 6, 7, 8] rfl ?_
      exact t_X12_basis_b125 h N K39 hK39 x0 x1 x2 x3 x4 x6 x7 x8 s9
    · refine a_iconst (v := 3) dX12_basis_119 (by decide) ?_
      refine a_goto 125 dX12_basis_120 (by decide) ?_
      refine a_pick (lc2 := [(0, .ref x0), (1, .int x1), (2, .int x2), (3, .int x3), (4, .long x4), (6, .int x6), (7, .int x7), (8, .int x8)]) [1, 2, 3, 4, 5, 6, 7, 8] rfl ?_
      exact t_X12_basis_b125 h N K39 hK39 x0 x1 x2 x3 x4 x6 x7 x8 3
set_option maxRecDepth 100000 in
set_option maxHeartbeats 4000000 in
theorem t_X12_basis_b39_body (h : AH) (N : Nat) (K39 : Nat → Int32 → Int32 → Int32 → Int64 → Int32 → Int32 → Option Int64) (hK39 : ∀ (z0 : Nat) (z1 : Int32) (z2 : Int32) (z3 : Int32) (z4 : Int64) (z5 : Int32) (z6 : Int32), AO l g M_X12_basis false h 39 [(0, .ref z0), (1, .int z1), (2, .int z2), (3, .int z3), (4, .long z4), (6, .int z5), (7, .int z6)] [] h 0 0 (rPl h) (K39 z0 z1 z2 z3 z4 z5 z6)) (x0 : Nat) (x1 : Int32) (x2 : Int32) (x3 : Int32) (x4 : Int64) (x6 : Int32) (x7 : Int32) : AO l g M_X12_basis false h 39 [(0, .ref x0), (1, .int x1), (2, .int x2), (3, .int x3), (4, .long x4), (6, .int x6), (7, .int x7)] [] h 0 0 (rPl h) (f_X12_basis_b39_body h N K39 x0 x1 x2 x3 x4 x6 x7) := by
  unfold f_X12_basis_b39_body
  refine a_iload dX12_basis_39 6 rfl ?_
  refine a_aload_n dX12_basis_41 rfl 0 rfl ?_
  refine a_geti kc13 41 dX12_basis_42 (by decide) rfl w_fieldLink_RainCoverModel_364 (fun v7 => ?_)
  refine a_icmp_ge 190 dX12_basis_45 (by decide) (fun c8 => ?_) (fun c8 => ?_)
  · refine a_iload dX12_basis_190 5 rfl ?_
    refine a_if_ne 201 dX12_basis_192 (by decide) (fun c9 => ?_) (fun c9 => ?_)
    · refine a_ldc2 (v := (-9223372036854775808)) dX12_basis_195 w_constantLong_RainCoverModel_374 ?_
      refine a_goto 210 dX12_basis_198 (by decide) ?_
      exact a_lret dX12_basis_210 rfl rfl (by decide) (by decide)
    · refine a_lload dX12_basis_201 4 rfl ?_
      refine a_iload dX12_basis_203 5 rfl ?_
      refine a_i2l dX12_basis_205 ?_
      refine a_iload_n dX12_basis_206 rfl 3 rfl ?_
      refine a_cS_Pl (as := [.long x4, .long (x6 : Int32).toInt64, .int x3]) (st := []) dX12_basis_207 (c_X12_part l g h N x4 (x6 : Int32).toInt64 x3) rfl km_X12_part (hm_X12_part) w_methodLink_RainCoverModel_376 w_static_RainCoverModel_part__JJI_J ⟨⟨by decide, by decide⟩, ⟨by decide, by decide⟩⟩ (Nat.le_of_ble_eq_true rfl) (fun v10 => ?_)
      exact a_lret dX12_basis_210 rfl rfl (by decide) (by decide)
  · refine a_aload_n dX12_basis_48 rfl 0 rfl ?_
    refine a_getr kc13 42 dX12_basis_49 (by decide) rfl w_fieldLink_RainCoverModel_121 (fun v11 => ?_)
    refine a_iload dX12_basis_52 6 rfl ?_
    refine a_iald dX12_basis_54 (fun v12 => ?_)
    refine a_istore (lc2 := [(8, .int v12), (0, .ref x0), (1, .int x1), (2, .int x2), (3, .int x3), (4, .long x4), (6, .int x6), (7, .int x7)]) dX12_basis_55 (by decide) rfl ?_
    refine a_aload_n dX12_basis_57 rfl 1 rfl ?_
    refine a_iload dX12_basis_58 0 rfl ?_
    refine a_aload_n dX12_basis_60 rfl 1 rfl ?_
    refine a_getr kc13 43 dX12_basis_61 (by decide) rfl w_fieldLink_RainCoverModel_124 (fun v13 => ?_)
    refine a_iload dX12_basis_64 7 rfl ?_
    refine a_iald dX12_basis_66 (fun v14 => ?_)
    refine a_cV_Pi (r := x0) (ci := 13) (as := [.int v12, .int v14]) (st := []) dX12_basis_67 (c_X12_gaugeOf l g h N x0 v12 v14) rfl km_X12_gaugeOf (hm_X12_gaugeOf) rfl (by decide) rfl (fun _ ee => g_X12_gaugeOf ee) w_methodLink_RainCoverModel_349 w_instanceMethod_RainCoverModel_gaugeOf__II_I w_selects_RainCoverModel_RainCoverModel_gaugeOf__II_I_RainCoverModel_gaugeOf__II_I ⟨⟨by decide, by decide⟩, ⟨by decide, by decide⟩⟩ (Nat.le_of_ble_eq_true rfl) (fun v15 => ?_)
    refine a_istore (lc2 := [(9, .int v15), (8, .int v12), (0, .ref x0), (1, .int x1), (2, .int x2), (3, .int x3), (4, .long x4), (6, .int x6), (7, .int x7)]) dX12_basis_70 (by decide) rfl ?_
    refine a_iload dX12_basis_72 0 rfl ?_
    refine a_iconst (v := (-1)) dX12_basis_74 (by decide) ?_
    refine a_icmp_ne 82 dX12_basis_75 (by decide) (fun c16 => ?_) (fun c16 => ?_)
    · refine a_iconst (v := (-1)) dX12_basis_78 (by decide) ?_
      refine a_goto 105 dX12_basis_79 (by decide) ?_
      refine a_pick (lc2 := [(0, .ref x0), (1, .int x1), (2, .int x2), (3, .int x3), (4, .long x4), (6, .int x6), (7, .int x7), (8, .int v12), (9, .int v15)]) [2, 3, 4, 5, 6, 7, 8, 1, 0] rfl ?_
      exact t_X12_basis_b105 h N K39 hK39 x0 x1 x2 x3 x4 x6 x7 v12 v15 (-1)
    · refine a_aload_n dX12_basis_82 rfl 2 rfl ?_
      refine a_iload dX12_basis_83 1 rfl ?_
      refine a_aload_n dX12_basis_85 rfl 2 rfl ?_
      refine a_getr kc13 1 dX12_basis_86 (by decide) rfl w_fieldLink_RainCoverModel_9 (fun v17 => ?_)
      refine a_iload dX12_basis_89 0 rfl ?_
      refine a_iald dX12_basis_91 (fun v18 => ?_)
      refine a_aload_n dX12_basis_92 rfl 2 rfl ?_
      refine a_getr kc13 2 dX12_basis_93 (by decide) rfl w_fieldLink_RainCoverModel_15 (fun v19 => ?_)
      refine a_iload dX12_basis_96 0 rfl ?_
      refine a_iald dX12_basis_98 (fun v20 => ?_)
      refine a_cV_Pi (r := x0) (ci := 13) (as := [.int v12, .int v18, .int v20]) (st := []) dX12_basis_99 (c_X12_farFrom l g h x0 v12 v18 v20) rfl km_X12_farFrom (hm_X12_farFrom) rfl (by decide) rfl (fun _ ee => g_X12_farFrom ee) w_methodLink_RainCoverModel_334 w_instanceMethod_RainCoverModel_farFrom__III_I w_selects_RainCoverModel_RainCoverModel_farFrom__III_I_RainCoverModel_farFrom__III_I ⟨⟨by decide, by decide⟩, ⟨by decide, by decide⟩⟩ (Nat.le_of_ble_eq_true rfl) (fun v21 => ?_)
      refine a_bipush (v := 20) dX12_basis_102 (by decide) ?_
      refine a_idiv dX12_basis_104 (fun c22 => ?_)
      refine a_pick (lc2 := [(0, .ref x0), (1, .int x1), (2, .int x2), (3, .int x3), (4, .long x4), (6, .int x6), (7, .int x7), (8, .int v12), (9, .int v15)]) [2, 3, 4, 5, 6, 7, 8, 1, 0] rfl ?_
      exact t_X12_basis_b105 h N K39 hK39 x0 x1 x2 x3 x4 x6 x7 v12 v15 (v21 / 20)
set_option maxRecDepth 100000 in
set_option maxHeartbeats 4000000 in
theorem t_X12_basis_b39 (h : AH) (N : Nat) : ∀ (n : Nat) (x0 : Nat) (x1 : Int32) (x2 : Int32) (x3 : Int32) (x4 : Int64) (x6 : Int32) (x7 : Int32) , AO l g M_X12_basis false h 39 [(0, .ref x0), (1, .int x1), (2, .int x2), (3, .int x3), (4, .long x4), (6, .int x6), (7, .int x7)] [] h 0 0 (rPl h) (f_X12_basis_b39 h N  n x0 x1 x2 x3 x4 x6 x7) := by
  intro n
  induction n with
  | zero => intro x0 x1 x2 x3 x4 x6 x7; exact a_eq rfl a_none
  | succ n ih => intro x0 x1 x2 x3 x4 x6 x7; exact a_eq rfl (t_X12_basis_b39_body h N  (f_X12_basis_b39 h N  n) ih x0 x1 x2 x3 x4 x6 x7)
end
set_option maxRecDepth 100000 in
set_option maxHeartbeats 4000000 in
theorem c_X12_basis (l : Launch) (g : GG) (h : AH) (N : Nat) (p0 : Nat) (p1 : Int32) (p2 : Int32) (p3 : Int32) : CN l g yX12_basis M_X12_basis false [.ref p0, .int p1, .int p2, .int p3] h ((rPl h)) (f_X12_basis h N p0 p1 p2 p3) := by
  refine CN.of (by decide) rfl (fun hh => by first | rfl | cases hh) (Nat.le_of_ble_eq_true rfl) ?_
  unfold f_X12_basis
  refine a_gd (fun hkd => ?_)
  refine a_aload_n dX12_basis_0 rfl 0 rfl ?_
  refine a_iload_n dX12_basis_1 rfl 1 rfl ?_
  refine a_cV_Pi (r := p0) (ci := 13) (as := [.int p1]) (st := []) dX12_basis_2 (c_X12_isTerm l g h p0 p1) rfl km_X12_isTerm (hm_X12_isTerm) rfl (by decide) rfl (fun _ ee => g_X12_isTerm ee) w_methodLink_RainCoverModel_328 w_instanceMethod_RainCoverModel_isTerm__I_Z w_selects_RainCoverModel_RainCoverModel_isTerm__I_Z_RainCoverModel_isTerm__I_Z ⟨⟨by decide, by decide⟩, ⟨by decide, by decide⟩⟩ (Nat.le_of_ble_eq_true rfl) (fun v1 => ?_)
  refine a_if_eq 26 dX12_basis_5 (by decide) (fun c2 => ?_) (fun c2 => ?_)
  · refine a_ldc2 (v := (-9223372036854775808)) dX12_basis_26 w_constantLong_RainCoverModel_374 ?_
    exact a_lret dX12_basis_29 rfl rfl (by decide) (by decide)
  · refine a_iload_n dX12_basis_8 rfl 2 rfl ?_
    refine a_iconst (v := 0) dX12_basis_9 (by decide) ?_
    refine a_iconst (v := 3) dX12_basis_10 (by decide) ?_
    refine a_cS_Pi (as := [.int p2, .int 0, .int 3]) (st := []) dX12_basis_11 (c_X12_in l g h p2 0 3) rfl km_X12_in (hm_X12_in) w_methodLink_RainCoverModel_204 w_static_RainCoverModel_in__III_Z ⟨⟨by decide, by decide⟩, ⟨by decide, by decide⟩⟩ (Nat.le_of_ble_eq_true rfl) (fun v3 => ?_)
    refine a_if_eq 26 dX12_basis_14 (by decide) (fun c4 => ?_) (fun c4 => ?_)
    · refine a_ldc2 (v := (-9223372036854775808)) dX12_basis_26 w_constantLong_RainCoverModel_374 ?_
      exact a_lret dX12_basis_29 rfl rfl (by decide) (by decide)
    · refine a_iload_n dX12_basis_17 rfl 3 rfl ?_
      refine a_iconst (v := 0) dX12_basis_18 (by decide) ?_
      refine a_iconst (v := 1) dX12_basis_19 (by decide) ?_
      refine a_cS_Pi (as := [.int p3, .int 0, .int 1]) (st := []) dX12_basis_20 (c_X12_in l g h p3 0 1) rfl km_X12_in (hm_X12_in) w_methodLink_RainCoverModel_204 w_static_RainCoverModel_in__III_Z ⟨⟨by decide, by decide⟩, ⟨by decide, by decide⟩⟩ (Nat.le_of_ble_eq_true rfl) (fun v5 => ?_)
      refine a_if_ne 30 dX12_basis_23 (by decide) (fun c6 => ?_) (fun c6 => ?_)
      · refine a_ldc2 (v := (-9223372036854775808)) dX12_basis_26 w_constantLong_RainCoverModel_374 ?_
        exact a_lret dX12_basis_29 rfl rfl (by decide) (by decide)
      · refine a_lconst (v := 0) dX12_basis_30 (by decide) ?_
        refine a_lstore (lc2 := [(4, .long 0), (0, .ref p0), (1, .int p1), (2, .int p2), (3, .int p3)]) dX12_basis_31 (by decide) rfl ?_
        refine a_iconst (v := 0) dX12_basis_33 (by decide) ?_
        refine a_istore (lc2 := [(6, .int 0), (4, .long 0), (0, .ref p0), (1, .int p1), (2, .int p2), (3, .int p3)]) dX12_basis_34 (by decide) rfl ?_
        refine a_iconst (v := 0) dX12_basis_36 (by decide) ?_
        refine a_istore (lc2 := [(7, .int 0), (6, .int 0), (4, .long 0), (0, .ref p0), (1, .int p1), (2, .int p2), (3, .int p3)]) dX12_basis_37 (by decide) rfl ?_
        refine a_pick (lc2 := [(0, .ref p0), (1, .int p1), (2, .int p2), (3, .int p3), (4, .long 0), (6, .int 0), (7, .int 0)]) [3, 4, 5, 6, 2, 1, 0] rfl ?_
        exact t_X12_basis_b39 h N N p0 p1 p2 p3 0 0 0
theorem dX12_site_0 : decode cX12_site 0 = .ok (.iload_n 1, 1) := by decide +kernel
theorem dX12_site_1 : decode cX12_site 1 = .ok (.iload_n 2, 1) := by decide +kernel
theorem dX12_site_2 : decode cX12_site 2 = .ok (.invokestatic 217, 3) := by decide +kernel
theorem dX12_site_5 : decode cX12_site 5 = .ok (.ifCond .ne 6, 3) := by decide +kernel
theorem dX12_site_8 : decode cX12_site 8 = .ok (.bipush (-2), 2) := by decide +kernel
theorem dX12_site_10 : decode cX12_site 10 = .ok (.ireturn, 1) := by decide +kernel
theorem dX12_site_11 : decode cX12_site 11 = .ok (.aload_n 0, 1) := by decide +kernel
theorem dX12_site_12 : decode cX12_site 12 = .ok (.getfield 380, 3) := by decide +kernel
theorem dX12_site_15 : decode cX12_site 15 = .ok (.bipush 8, 2) := by decide +kernel
theorem dX12_site_17 : decode cX12_site 17 = .ok (.if_icmp .ne 6, 3) := by decide +kernel
theorem dX12_site_20 : decode cX12_site 20 = .ok (.bipush (-4), 2) := by decide +kernel
theorem dX12_site_22 : decode cX12_site 22 = .ok (.ireturn, 1) := by decide +kernel
theorem dX12_site_23 : decode cX12_site 23 = .ok (.aload_n 0, 1) := by decide +kernel
theorem dX12_site_24 : decode cX12_site 24 = .ok (.getfield 133, 3) := by decide +kernel
theorem dX12_site_27 : decode cX12_site 27 = .ok (.aload_n 0, 1) := by decide +kernel
theorem dX12_site_28 : decode cX12_site 28 = .ok (.getfield 380, 3) := by decide +kernel
theorem dX12_site_31 : decode cX12_site 31 = .ok (.iload_n 1, 1) := by decide +kernel
theorem dX12_site_32 : decode cX12_site 32 = .ok (.iastore, 1) := by decide +kernel
theorem dX12_site_33 : decode cX12_site 33 = .ok (.aload_n 0, 1) := by decide +kernel
theorem dX12_site_34 : decode cX12_site 34 = .ok (.getfield 136, 3) := by decide +kernel
theorem dX12_site_37 : decode cX12_site 37 = .ok (.aload_n 0, 1) := by decide +kernel
theorem dX12_site_38 : decode cX12_site 38 = .ok (.getfield 380, 3) := by decide +kernel
theorem dX12_site_41 : decode cX12_site 41 = .ok (.iload_n 2, 1) := by decide +kernel
theorem dX12_site_42 : decode cX12_site 42 = .ok (.iastore, 1) := by decide +kernel
theorem dX12_site_43 : decode cX12_site 43 = .ok (.aload_n 0, 1) := by decide +kernel
theorem dX12_site_44 : decode cX12_site 44 = .ok (.dup, 1) := by decide +kernel
theorem dX12_site_45 : decode cX12_site 45 = .ok (.getfield 380, 3) := by decide +kernel
theorem dX12_site_48 : decode cX12_site 48 = .ok (.iconst 1, 1) := by decide +kernel
theorem dX12_site_49 : decode cX12_site 49 = .ok (.iadd, 1) := by decide +kernel
theorem dX12_site_50 : decode cX12_site 50 = .ok (.putfield 380, 3) := by decide +kernel
theorem dX12_site_53 : decode cX12_site 53 = .ok (.aload_n 0, 1) := by decide +kernel
theorem dX12_site_54 : decode cX12_site 54 = .ok (.getfield 380, 3) := by decide +kernel
theorem dX12_site_57 : decode cX12_site 57 = .ok (.iconst 1, 1) := by decide +kernel
theorem dX12_site_58 : decode cX12_site 58 = .ok (.isub, 1) := by decide +kernel
theorem dX12_site_59 : decode cX12_site 59 = .ok (.ireturn, 1) := by decide +kernel
abbrev M_X12_site : MI := (RX12, cX12_site, 3, (some .int), ({ frames := 2, cells := 0, slots := 0, locals := 43 } : Room), 0, 0, false)
def f_X12_site (h0 : AH) (p0 : Nat) (p1 : Int32) (p2 : Int32) : Option (Int32 × AH) := if kd h0 p0 = 13 + 1 then (f_X12_isPlace h0 p1 p2).bind fun v1 => (if v1 = 0 then some ((-2), h0) else (xgi h0 p0 13 46).bind fun v3 => (if v3 = 8 then some ((-4), h0) else (xgr h0 p0 13 47).bind fun v5 => (xgi h0 p0 13 46).bind fun v6 => (xis h0 v5 v6 p1).bind fun h7 => (xgr h7 p0 13 48).bind fun v8 => (xgi h7 p0 13 46).bind fun v9 => (xis h7 v8 v9 p2).bind fun h10 => (xgi h10 p0 13 46).bind fun v11 => (xpi h10 p0 13 46 (v11 + 1)).bind fun h12 => (xgi h12 p0 13 46).bind fun v13 => some ((v13 - 1), h12))) else none
theorem g_X12_site {h0 : AH} {p0 : Nat} {p1 : Int32} {p2 : Int32} {x : (Int32 × AH)} (e : f_X12_site h0 p0 p1 p2 = some x) : kd h0 p0 = 13 + 1 := by
  unfold f_X12_site at e
  by_cases hk : kd h0 p0 = 13 + 1
  · exact hk
  · rw [if_neg hk] at e
    cases e
theorem km_X12_site : KM yX12_site M_X12_site 2 := ⟨in_tb 1687 (by decide +kernel) rfl, in_tb 9 (by decide +kernel) rfl, by decide +kernel, rfl, rfl⟩
theorem hm_X12_site : M_X12_site.2.2.2.2.2.1 = 0 ∧ M_X12_site.2.2.2.2.2.2.1 = 0 := ⟨rfl, rfl⟩
section
variable {l : Launch} {g : GG}
end
set_option maxRecDepth 100000 in
set_option maxHeartbeats 4000000 in
theorem c_X12_site (l : Launch) (g : GG) (h0 : AH) (p0 : Nat) (p1 : Int32) (p2 : Int32) : CN l g yX12_site M_X12_site false [.ref p0, .int p1, .int p2] h0 rSi (f_X12_site h0 p0 p1 p2) := by
  refine CN.of (by decide) rfl (fun hh => by first | rfl | cases hh) (Nat.le_of_ble_eq_true rfl) ?_
  unfold f_X12_site
  refine a_gd (fun hkd => ?_)
  refine a_iload_n dX12_site_0 rfl 1 rfl ?_
  refine a_iload_n dX12_site_1 rfl 2 rfl ?_
  refine a_cS_Pi (as := [.int p1, .int p2]) (st := []) dX12_site_2 (c_X12_isPlace l g h0 p1 p2) rfl km_X12_isPlace (hm_X12_isPlace) w_methodLink_RainCoverModel_217 w_static_RainCoverModel_isPlace__II_Z ⟨⟨by decide, by decide⟩, ⟨by decide, by decide⟩⟩ (Nat.le_of_ble_eq_true rfl) (fun v1 => ?_)
  refine a_if_ne 11 dX12_site_5 (by decide) (fun c2 => ?_) (fun c2 => ?_)
  · refine a_bipush (v := (-2)) dX12_site_8 (by decide) ?_
    exact a_iret dX12_site_10 rfl rfl (by decide) (by decide)
  · refine a_aload_n dX12_site_11 rfl 0 rfl ?_
    refine a_geti kc13 46 dX12_site_12 (by decide) rfl w_fieldLink_RainCoverModel_380 (fun v3 => ?_)
    refine a_bipush (v := 8) dX12_site_15 (by decide) ?_
    refine a_icmp_ne 23 dX12_site_17 (by decide) (fun c4 => ?_) (fun c4 => ?_)
    · refine a_bipush (v := (-4)) dX12_site_20 (by decide) ?_
      exact a_iret dX12_site_22 rfl rfl (by decide) (by decide)
    · refine a_aload_n dX12_site_23 rfl 0 rfl ?_
      refine a_getr kc13 47 dX12_site_24 (by decide) rfl w_fieldLink_RainCoverModel_133 (fun v5 => ?_)
      refine a_aload_n dX12_site_27 rfl 0 rfl ?_
      refine a_geti kc13 46 dX12_site_28 (by decide) rfl w_fieldLink_RainCoverModel_380 (fun v6 => ?_)
      refine a_iload_n dX12_site_31 rfl 1 rfl ?_
      refine a_iast dX12_site_32 (fun h7 => ?_)
      refine a_aload_n dX12_site_33 rfl 0 rfl ?_
      refine a_getr kc13 48 dX12_site_34 (by decide) rfl w_fieldLink_RainCoverModel_136 (fun v8 => ?_)
      refine a_aload_n dX12_site_37 rfl 0 rfl ?_
      refine a_geti kc13 46 dX12_site_38 (by decide) rfl w_fieldLink_RainCoverModel_380 (fun v9 => ?_)
      refine a_iload_n dX12_site_41 rfl 2 rfl ?_
      refine a_iast dX12_site_42 (fun h10 => ?_)
      refine a_aload_n dX12_site_43 rfl 0 rfl ?_
      refine a_dup dX12_site_44 rfl ?_
      refine a_geti kc13 46 dX12_site_45 (by decide) rfl w_fieldLink_RainCoverModel_380 (fun v11 => ?_)
      refine a_iconst (v := 1) dX12_site_48 (by decide) ?_
      refine a_iadd dX12_site_49 ?_
      refine a_puti kc13 46 dX12_site_50 (by decide) rfl w_fieldLink_RainCoverModel_380 rfl rfl (fun h12 => ?_)
      refine a_aload_n dX12_site_53 rfl 0 rfl ?_
      refine a_geti kc13 46 dX12_site_54 (by decide) rfl w_fieldLink_RainCoverModel_380 (fun v13 => ?_)
      refine a_iconst (v := 1) dX12_site_57 (by decide) ?_
      refine a_isub dX12_site_58 ?_
      exact a_iret dX12_site_59 rfl rfl (by decide) (by decide)
theorem dX12_far_0 : decode cX12_far 0 = .ok (.iconst 0, 1) := by decide +kernel
theorem dX12_far_1 : decode cX12_far 1 = .ok (.istore_n 2, 1) := by decide +kernel
theorem dX12_far_2 : decode cX12_far 2 = .ok (.iconst 0, 1) := by decide +kernel
theorem dX12_far_3 : decode cX12_far 3 = .ok (.istore_n 3, 1) := by decide +kernel
theorem dX12_far_4 : decode cX12_far 4 = .ok (.iload_n 3, 1) := by decide +kernel
theorem dX12_far_5 : decode cX12_far 5 = .ok (.aload_n 0, 1) := by decide +kernel
theorem dX12_far_6 : decode cX12_far 6 = .ok (.getfield 214, 3) := by decide +kernel
theorem dX12_far_9 : decode cX12_far 9 = .ok (.if_icmp .ge 177, 3) := by decide +kernel
theorem dX12_far_12 : decode cX12_far 12 = .ok (.iconst (-1), 1) := by decide +kernel
theorem dX12_far_13 : decode cX12_far 13 = .ok (.istore 4, 2) := by decide +kernel
theorem dX12_far_15 : decode cX12_far 15 = .ok (.iconst 0, 1) := by decide +kernel
theorem dX12_far_16 : decode cX12_far 16 = .ok (.istore 5, 2) := by decide +kernel
theorem dX12_far_18 : decode cX12_far 18 = .ok (.iload 5, 2) := by decide +kernel
theorem dX12_far_20 : decode cX12_far 20 = .ok (.aload_n 0, 1) := by decide +kernel
theorem dX12_far_21 : decode cX12_far 21 = .ok (.getfield 208, 3) := by decide +kernel
theorem dX12_far_24 : decode cX12_far 24 = .ok (.if_icmp .ge 63, 3) := by decide +kernel
theorem dX12_far_27 : decode cX12_far 27 = .ok (.aload_n 0, 1) := by decide +kernel
theorem dX12_far_28 : decode cX12_far 28 = .ok (.iload_n 3, 1) := by decide +kernel
theorem dX12_far_29 : decode cX12_far 29 = .ok (.aload_n 0, 1) := by decide +kernel
theorem dX12_far_30 : decode cX12_far 30 = .ok (.getfield 9, 3) := by decide +kernel
theorem dX12_far_33 : decode cX12_far 33 = .ok (.iload 5, 2) := by decide +kernel
theorem dX12_far_35 : decode cX12_far 35 = .ok (.iaload, 1) := by decide +kernel
theorem dX12_far_36 : decode cX12_far 36 = .ok (.aload_n 0, 1) := by decide +kernel
theorem dX12_far_37 : decode cX12_far 37 = .ok (.getfield 15, 3) := by decide +kernel
theorem dX12_far_40 : decode cX12_far 40 = .ok (.iload 5, 2) := by decide +kernel
theorem dX12_far_42 : decode cX12_far 42 = .ok (.iaload, 1) := by decide +kernel
theorem dX12_far_43 : decode cX12_far 43 = .ok (.invokevirtual 334, 3) := by decide +kernel
theorem dX12_far_46 : decode cX12_far 46 = .ok (.istore 6, 2) := by decide +kernel
theorem dX12_far_48 : decode cX12_far 48 = .ok (.aload_n 0, 1) := by decide +kernel
theorem dX12_far_49 : decode cX12_far 49 = .ok (.iload 5, 2) := by decide +kernel
theorem dX12_far_51 : decode cX12_far 51 = .ok (.bipush 15, 2) := by decide +kernel
theorem dX12_far_53 : decode cX12_far 53 = .ok (.invokevirtual 337, 3) := by decide +kernel
theorem dX12_far_56 : decode cX12_far 56 = .ok (.ifCond .eq 21, 3) := by decide +kernel
theorem dX12_far_59 : decode cX12_far 59 = .ok (.iload 4, 2) := by decide +kernel
theorem dX12_far_61 : decode cX12_far 61 = .ok (.iconst (-1), 1) := by decide +kernel
theorem dX12_far_62 : decode cX12_far 62 = .ok (.if_icmp .eq 10, 3) := by decide +kernel
theorem dX12_far_65 : decode cX12_far 65 = .ok (.iload 6, 2) := by decide +kernel
theorem dX12_far_67 : decode cX12_far 67 = .ok (.iload 4, 2) := by decide +kernel
theorem dX12_far_69 : decode cX12_far 69 = .ok (.if_icmp .ge 8, 3) := by decide +kernel
theorem dX12_far_72 : decode cX12_far 72 = .ok (.iload 6, 2) := by decide +kernel
theorem dX12_far_74 : decode cX12_far 74 = .ok (.goto 5, 3) := by decide +kernel
theorem dX12_far_77 : decode cX12_far 77 = .ok (.iload 4, 2) := by decide +kernel
theorem dX12_far_79 : decode cX12_far 79 = .ok (.istore 4, 2) := by decide +kernel
theorem dX12_far_81 : decode cX12_far 81 = .ok (.iinc 5 1, 3) := by decide +kernel
theorem dX12_far_84 : decode cX12_far 84 = .ok (.goto (-66), 3) := by decide +kernel
theorem dX12_far_87 : decode cX12_far 87 = .ok (.iconst 0, 1) := by decide +kernel
theorem dX12_far_88 : decode cX12_far 88 = .ok (.istore 5, 2) := by decide +kernel
theorem dX12_far_90 : decode cX12_far 90 = .ok (.iload 5, 2) := by decide +kernel
theorem dX12_far_92 : decode cX12_far 92 = .ok (.aload_n 0, 1) := by decide +kernel
theorem dX12_far_93 : decode cX12_far 93 = .ok (.getfield 380, 3) := by decide +kernel
theorem dX12_far_96 : decode cX12_far 96 = .ok (.if_icmp .ge 62, 3) := by decide +kernel
theorem dX12_far_99 : decode cX12_far 99 = .ok (.aload_n 0, 1) := by decide +kernel
theorem dX12_far_100 : decode cX12_far 100 = .ok (.iload_n 3, 1) := by decide +kernel
theorem dX12_far_101 : decode cX12_far 101 = .ok (.aload_n 0, 1) := by decide +kernel
theorem dX12_far_102 : decode cX12_far 102 = .ok (.getfield 133, 3) := by decide +kernel
theorem dX12_far_105 : decode cX12_far 105 = .ok (.iload 5, 2) := by decide +kernel
theorem dX12_far_107 : decode cX12_far 107 = .ok (.iaload, 1) := by decide +kernel
theorem dX12_far_108 : decode cX12_far 108 = .ok (.aload_n 0, 1) := by decide +kernel
theorem dX12_far_109 : decode cX12_far 109 = .ok (.getfield 136, 3) := by decide +kernel
theorem dX12_far_112 : decode cX12_far 112 = .ok (.iload 5, 2) := by decide +kernel
theorem dX12_far_114 : decode cX12_far 114 = .ok (.iaload, 1) := by decide +kernel
theorem dX12_far_115 : decode cX12_far 115 = .ok (.invokevirtual 334, 3) := by decide +kernel
theorem dX12_far_118 : decode cX12_far 118 = .ok (.istore 6, 2) := by decide +kernel
theorem dX12_far_120 : decode cX12_far 120 = .ok (.iload_n 1, 1) := by decide +kernel
theorem dX12_far_121 : decode cX12_far 121 = .ok (.iload 5, 2) := by decide +kernel
theorem dX12_far_123 : decode cX12_far 123 = .ok (.ishr, 1) := by decide +kernel
theorem dX12_far_124 : decode cX12_far 124 = .ok (.iconst 1, 1) := by decide +kernel
theorem dX12_far_125 : decode cX12_far 125 = .ok (.iand, 1) := by decide +kernel
theorem dX12_far_126 : decode cX12_far 126 = .ok (.iconst 1, 1) := by decide +kernel
theorem dX12_far_127 : decode cX12_far 127 = .ok (.if_icmp .ne 21, 3) := by decide +kernel
theorem dX12_far_130 : decode cX12_far 130 = .ok (.iload 4, 2) := by decide +kernel
theorem dX12_far_132 : decode cX12_far 132 = .ok (.iconst (-1), 1) := by decide +kernel
theorem dX12_far_133 : decode cX12_far 133 = .ok (.if_icmp .eq 10, 3) := by decide +kernel
theorem dX12_far_136 : decode cX12_far 136 = .ok (.iload 6, 2) := by decide +kernel
theorem dX12_far_138 : decode cX12_far 138 = .ok (.iload 4, 2) := by decide +kernel
theorem dX12_far_140 : decode cX12_far 140 = .ok (.if_icmp .ge 8, 3) := by decide +kernel
theorem dX12_far_143 : decode cX12_far 143 = .ok (.iload 6, 2) := by decide +kernel
theorem dX12_far_145 : decode cX12_far 145 = .ok (.goto 5, 3) := by decide +kernel
theorem dX12_far_148 : decode cX12_far 148 = .ok (.iload 4, 2) := by decide +kernel
theorem dX12_far_150 : decode cX12_far 150 = .ok (.istore 4, 2) := by decide +kernel
theorem dX12_far_152 : decode cX12_far 152 = .ok (.iinc 5 1, 3) := by decide +kernel
theorem dX12_far_155 : decode cX12_far 155 = .ok (.goto (-65), 3) := by decide +kernel
theorem dX12_far_158 : decode cX12_far 158 = .ok (.iload_n 2, 1) := by decide +kernel
theorem dX12_far_159 : decode cX12_far 159 = .ok (.iload 4, 2) := by decide +kernel
theorem dX12_far_161 : decode cX12_far 161 = .ok (.iconst (-1), 1) := by decide +kernel
theorem dX12_far_162 : decode cX12_far 162 = .ok (.if_icmp .ne 7, 3) := by decide +kernel
theorem dX12_far_165 : decode cX12_far 165 = .ok (.iconst 0, 1) := by decide +kernel
theorem dX12_far_166 : decode cX12_far 166 = .ok (.goto 12, 3) := by decide +kernel
theorem dX12_far_169 : decode cX12_far 169 = .ok (.aload_n 0, 1) := by decide +kernel
theorem dX12_far_170 : decode cX12_far 170 = .ok (.getfield 91, 3) := by decide +kernel
theorem dX12_far_173 : decode cX12_far 173 = .ok (.iload_n 3, 1) := by decide +kernel
theorem dX12_far_174 : decode cX12_far 174 = .ok (.iaload, 1) := by decide +kernel
theorem dX12_far_175 : decode cX12_far 175 = .ok (.iload 4, 2) := by decide +kernel
theorem dX12_far_177 : decode cX12_far 177 = .ok (.imul, 1) := by decide +kernel
theorem dX12_far_178 : decode cX12_far 178 = .ok (.iadd, 1) := by decide +kernel
theorem dX12_far_179 : decode cX12_far 179 = .ok (.istore_n 2, 1) := by decide +kernel
theorem dX12_far_180 : decode cX12_far 180 = .ok (.iinc 3 1, 3) := by decide +kernel
theorem dX12_far_183 : decode cX12_far 183 = .ok (.goto (-179), 3) := by decide +kernel
theorem dX12_far_186 : decode cX12_far 186 = .ok (.iload_n 2, 1) := by decide +kernel
theorem dX12_far_187 : decode cX12_far 187 = .ok (.ireturn, 1) := by decide +kernel
abbrev M_X12_far : MI := (RX12, cX12_far, 7, (some .int), ({ frames := 2, cells := 0, slots := 0, locals := 44 } : Room), 0, 0, false)
def f_X12_far_b79 (h : AH) (N : Nat) (K4 : Nat → Int32 → Int32 → Int32 → Option Int32) (K18 : Nat → Int32 → Int32 → Int32 → Int32 → Int32 → Option Int32) (x0 : Nat) (x1 : Int32) (x2 : Int32) (x3 : Int32) (x5 : Int32) (s5 : Int32) : Option Int32 := K18 x0 x1 x2 x3 s5 (x5 + 1)
def f_X12_far_b72 (h : AH) (N : Nat) (K4 : Nat → Int32 → Int32 → Int32 → Option Int32) (K18 : Nat → Int32 → Int32 → Int32 → Int32 → Int32 → Option Int32) (x0 : Nat) (x1 : Int32) (x2 : Int32) (x3 : Int32) (x5 : Int32) (x6 : Int32) : Option Int32 := f_X12_far_b79 h N K4 K18 x0 x1 x2 x3 x5 x6
def f_X12_far_b77 (h : AH) (N : Nat) (K4 : Nat → Int32 → Int32 → Int32 → Option Int32) (K18 : Nat → Int32 → Int32 → Int32 → Int32 → Int32 → Option Int32) (x0 : Nat) (x1 : Int32) (x2 : Int32) (x3 : Int32) (x4 : Int32) (x5 : Int32) : Option Int32 := f_X12_far_b79 h N K4 K18 x0 x1 x2 x3 x5 x4
def f_X12_far_b150 (h : AH) (N : Nat) (K4 : Nat → Int32 → Int32 → Int32 → Option Int32) (K90 : Nat → Int32 → Int32 → Int32 → Int32 → Int32 → Option Int32) (x0 : Nat) (x1 : Int32) (x2 : Int32) (x3 : Int32) (x5 : Int32) (s5 : Int32) : Option Int32 := K90 x0 x1 x2 x3 s5 (x5 + 1)
def f_X12_far_b143 (h : AH) (N : Nat) (K4 : Nat → Int32 → Int32 → Int32 → Option Int32) (K90 : Nat → Int32 → Int32 → Int32 → Int32 → Int32 → Option Int32) (x0 : Nat) (x1 : Int32) (x2 : Int32) (x3 : Int32) (x5 : Int32) (x6 : Int32) : Option Int32 := f_X12_far_b150 h N K4 K90 x0 x1 x2 x3 x5 x6
def f_X12_far_b148 (h : AH) (N : Nat) (K4 : Nat → Int32 → Int32 → Int32 → Option Int32) (K90 : Nat → Int32 → Int32 → Int32 → Int32 → Int32 → Option Int32) (x0 : Nat) (x1 : Int32) (x2 : Int32) (x3 : Int32) (x4 : Int32) (x5 : Int32) : Option Int32 := f_X12_far_b150 h N K4 K90 x0 x1 x2 x3 x5 x4
def f_X12_far_b178 (h : AH) (N : Nat) (K4 : Nat → Int32 → Int32 → Int32 → Option Int32) (x0 : Nat) (x1 : Int32) (x3 : Int32) (s3 : Int32) (s4 : Int32) : Option Int32 := K4 x0 x1 (s4 + s3) (x3 + 1)
def f_X12_far_b90_body (h : AH) (N : Nat) (K4 : Nat → Int32 → Int32 → Int32 → Option Int32) (K90 : Nat → Int32 → Int32 → Int32 → Int32 → Int32 → Option Int32) (x0 : Nat) (x1 : Int32) (x2 : Int32) (x3 : Int32) (x4 : Int32) (x5 : Int32) : Option Int32 := (xgi h x0 13 46).bind fun v14 => (if v14 ≤ x5 then (if x4 = (-1) then f_X12_far_b178 h N K4 x0 x1 x3 0 x2 else (xgr h x0 13 30).bind fun v17 => (xia h v17 x3).bind fun v18 => f_X12_far_b178 h N K4 x0 x1 x3 (v18 * x4) x2) else (xgr h x0 13 47).bind fun v19 => (xia h v19 x5).bind fun v20 => (xgr h x0 13 48).bind fun v21 => (xia h v21 x5).bind fun v22 => (f_X12_farFrom h x0 x3 v20 v22).bind fun v23 => (if ((x1 >>> (x5 &&& 31)) &&& 1) = 1 then (if x4 = (-1) then f_X12_far_b143 h N K4 K90 x0 x1 x2 x3 x5 v23 else (if x4 ≤ v23 then f_X12_far_b148 h N K4 K90 x0 x1 x2 x3 x4 x5 else f_X12_far_b143 h N K4 K90 x0 x1 x2 x3 x5 v23)) else f_X12_far_b148 h N K4 K90 x0 x1 x2 x3 x4 x5))
def f_X12_far_b90 (h : AH) (N : Nat) (K4 : Nat → Int32 → Int32 → Int32 → Option Int32) : Nat → Nat → Int32 → Int32 → Int32 → Int32 → Int32 → Option Int32
  | 0, _, _, _, _, _, _ => none
  | n + 1, x0, x1, x2, x3, x4, x5 => f_X12_far_b90_body h N K4 (f_X12_far_b90 h N K4 n) x0 x1 x2 x3 x4 x5
def f_X12_far_b18_body (h : AH) (N : Nat) (K4 : Nat → Int32 → Int32 → Int32 → Option Int32) (K18 : Nat → Int32 → Int32 → Int32 → Int32 → Int32 → Option Int32) (x0 : Nat) (x1 : Int32) (x2 : Int32) (x3 : Int32) (x4 : Int32) (x5 : Int32) : Option Int32 := (xgi h x0 13 0).bind fun v3 => (if v3 ≤ x5 then f_X12_far_b90 h N K4 N x0 x1 x2 x3 x4 0 else (xgr h x0 13 1).bind fun v5 => (xia h v5 x5).bind fun v6 => (xgr h x0 13 2).bind fun v7 => (xia h v7 x5).bind fun v8 => (f_X12_farFrom h x0 x3 v6 v8).bind fun v9 => (f_X12_stands h x0 x5 15).bind fun v10 => (if v10 = 0 then f_X12_far_b77 h N K4 K18 x0 x1 x2 x3 x4 x5 else (if x4 = (-1) then f_X12_far_b72 h N K4 K18 x0 x1 x2 x3 x5 v9 else (if x4 ≤ v9 then f_X12_far_b77 h N K4 K18 x0 x1 x2 x3 x4 x5 else f_X12_far_b72 h N K4 K18 x0 x1 x2 x3 x5 v9))))
def f_X12_far_b18 (h : AH) (N : Nat) (K4 : Nat → Int32 → Int32 → Int32 → Option Int32) : Nat → Nat → Int32 → Int32 → Int32 → Int32 → Int32 → Option Int32
  | 0, _, _, _, _, _, _ => none
  | n + 1, x0, x1, x2, x3, x4, x5 => f_X12_far_b18_body h N K4 (f_X12_far_b18 h N K4 n) x0 x1 x2 x3 x4 x5
def f_X12_far_b4_body (h : AH) (N : Nat) (K4 : Nat → Int32 → Int32 → Int32 → Option Int32) (x0 : Nat) (x1 : Int32) (x2 : Int32) (x3 : Int32) : Option Int32 := (xgi h x0 13 26).bind fun v1 => (if v1 ≤ x3 then some x2 else f_X12_far_b18 h N K4 N x0 x1 x2 x3 (-1) 0)
def f_X12_far_b4 (h : AH) (N : Nat) : Nat → Nat → Int32 → Int32 → Int32 → Option Int32
  | 0, _, _, _, _ => none
  | n + 1, x0, x1, x2, x3 => f_X12_far_b4_body h N  (f_X12_far_b4 h N  n) x0 x1 x2 x3
def f_X12_far (h : AH) (N : Nat) (p0 : Nat) (p1 : Int32) : Option Int32 := if kd h p0 = 13 + 1 then f_X12_far_b4 h N N p0 p1 0 0 else none
theorem g_X12_far {h : AH} {N : Nat} {p0 : Nat} {p1 : Int32} {x : Int32} (e : f_X12_far h N p0 p1 = some x) : kd h p0 = 13 + 1 := by
  unfold f_X12_far at e
  by_cases hk : kd h p0 = 13 + 1
  · exact hk
  · rw [if_neg hk] at e
    cases e
theorem km_X12_far : KM yX12_far M_X12_far 1 := ⟨in_tb 1698 (by decide +kernel) rfl, in_tb 9 (by decide +kernel) rfl, by decide +kernel, rfl, rfl⟩
theorem hm_X12_far : M_X12_far.2.2.2.2.2.1 = 0 ∧ M_X12_far.2.2.2.2.2.2.1 = 0 := ⟨rfl, rfl⟩
section
variable {l : Launch} {g : GG}
set_option maxRecDepth 100000 in
set_option maxHeartbeats 4000000 in
theorem t_X12_far_b79 (h : AH) (N : Nat) (K4 : Nat → Int32 → Int32 → Int32 → Option Int32) (hK4 : ∀ (z0 : Nat) (z1 : Int32) (z2 : Int32) (z3 : Int32), AO l g M_X12_far false h 4 [(0, .ref z0), (1, .int z1), (2, .int z2), (3, .int z3)] [] h 0 0 (rPi h) (K4 z0 z1 z2 z3)) (K18 : Nat → Int32 → Int32 → Int32 → Int32 → Int32 → Option Int32) (hK18 : ∀ (z0 : Nat) (z1 : Int32) (z2 : Int32) (z3 : Int32) (z4 : Int32) (z5 : Int32), AO l g M_X12_far false h 18 [(0, .ref z0), (1, .int z1), (2, .int z2), (3, .int z3), (4, .int z4), (5, .int z5)] [] h 0 0 (rPi h) (K18 z0 z1 z2 z3 z4 z5)) (x0 : Nat) (x1 : Int32) (x2 : Int32) (x3 : Int32) (x5 : Int32) (s5 : Int32) : AO l g M_X12_far false h 79 [(0, .ref x0), (1, .int x1), (2, .int x2), (3, .int x3), (5, .int x5)] [.int s5] h 0 0 (rPi h) (f_X12_far_b79 h N K4 K18 x0 x1 x2 x3 x5 s5) := by
  unfold f_X12_far_b79
  refine a_istore (lc2 := [(4, .int s5), (0, .ref x0), (1, .int x1), (2, .int x2), (3, .int x3), (5, .int x5)]) dX12_far_79 (by decide) rfl ?_
  refine a_iinc (q := 5) (v := (x5 + 1)) (lc2 := [(5, .int (x5 + 1)), (4, .int s5), (0, .ref x0), (1, .int x1), (2, .int x2), (3, .int x3)]) dX12_far_81 rfl rfl (by decide) rfl ?_
  refine a_goto 18 dX12_far_84 (by decide) ?_
  refine a_pick (lc2 := [(0, .ref x0), (1, .int x1), (2, .int x2), (3, .int x3), (4, .int s5), (5, .int (x5 + 1))]) [2, 3, 4, 5, 1, 0] rfl ?_
  exact hK18 x0 x1 x2 x3 s5 (x5 + 1)
set_option maxRecDepth 100000 in
set_option maxHeartbeats 4000000 in
theorem t_X12_far_b72 (h : AH) (N : Nat) (K4 : Nat → Int32 → Int32 → Int32 → Option Int32) (hK4 : ∀ (z0 : Nat) (z1 : Int32) (z2 : Int32) (z3 : Int32), AO l g M_X12_far false h 4 [(0, .ref z0), (1, .int z1), (2, .int z2), (3, .int z3)] [] h 0 0 (rPi h) (K4 z0 z1 z2 z3)) (K18 : Nat → Int32 → Int32 → Int32 → Int32 → Int32 → Option Int32) (hK18 : ∀ (z0 : Nat) (z1 : Int32) (z2 : Int32) (z3 : Int32) (z4 : Int32) (z5 : Int32), AO l g M_X12_far false h 18 [(0, .ref z0), (1, .int z1), (2, .int z2), (3, .int z3), (4, .int z4), (5, .int z5)] [] h 0 0 (rPi h) (K18 z0 z1 z2 z3 z4 z5)) (x0 : Nat) (x1 : Int32) (x2 : Int32) (x3 : Int32) (x5 : Int32) (x6 : Int32) : AO l g M_X12_far false h 72 [(0, .ref x0), (1, .int x1), (2, .int x2), (3, .int x3), (5, .int x5), (6, .int x6)] [] h 0 0 (rPi h) (f_X12_far_b72 h N K4 K18 x0 x1 x2 x3 x5 x6) := by
  unfold f_X12_far_b72
  refine a_iload dX12_far_72 5 rfl ?_
  refine a_goto 79 dX12_far_74 (by decide) ?_
  refine a_pick (lc2 := [(0, .ref x0), (1, .int x1), (2, .int x2), (3, .int x3), (5, .int x5)]) [0, 1, 2, 3, 4] rfl ?_
  exact t_X12_far_b79 h N K4 hK4 K18 hK18 x0 x1 x2 x3 x5 x6
set_option maxRecDepth 100000 in
set_option maxHeartbeats 4000000 in
theorem t_X12_far_b77 (h : AH) (N : Nat) (K4 : Nat → Int32 → Int32 → Int32 → Option Int32) (hK4 : ∀ (z0 : Nat) (z1 : Int32) (z2 : Int32) (z3 : Int32), AO l g M_X12_far false h 4 [(0, .ref z0), (1, .int z1), (2, .int z2), (3, .int z3)] [] h 0 0 (rPi h) (K4 z0 z1 z2 z3)) (K18 : Nat → Int32 → Int32 → Int32 → Int32 → Int32 → Option Int32) (hK18 : ∀ (z0 : Nat) (z1 : Int32) (z2 : Int32) (z3 : Int32) (z4 : Int32) (z5 : Int32), AO l g M_X12_far false h 18 [(0, .ref z0), (1, .int z1), (2, .int z2), (3, .int z3), (4, .int z4), (5, .int z5)] [] h 0 0 (rPi h) (K18 z0 z1 z2 z3 z4 z5)) (x0 : Nat) (x1 : Int32) (x2 : Int32) (x3 : Int32) (x4 : Int32) (x5 : Int32) : AO l g M_X12_far false h 77 [(0, .ref x0), (1, .int x1), (2, .int x2), (3, .int x3), (4, .int x4), (5, .int x5)] [] h 0 0 (rPi h) (f_X12_far_b77 h N K4 K18 x0 x1 x2 x3 x4 x5) := by
  unfold f_X12_far_b77
  refine a_iload dX12_far_77 4 rfl ?_
  refine a_pick (lc2 := [(0, .ref x0), (1, .int x1), (2, .int x2), (3, .int x3), (5, .int x5)]) [0, 1, 2, 3, 5] rfl ?_
  exact t_X12_far_b79 h N K4 hK4 K18 hK18 x0 x1 x2 x3 x5 x4
set_option maxRecDepth 100000 in
set_option maxHeartbeats 4000000 in
theorem t_X12_far_b150 (h : AH) (N : Nat) (K4 : Nat → Int32 → Int32 → Int32 → Option Int32) (hK4 : ∀ (z0 : Nat) (z1 : Int32) (z2 : Int32) (z3 : Int32), AO l g M_X12_far false h 4 [(0, .ref z0), (1, .int z1), (2, .int z2), (3, .int z3)] [] h 0 0 (rPi h) (K4 z0 z1 z2 z3)) (K90 : Nat → Int32 → Int32 → Int32 → Int32 → Int32 → Option Int32) (hK90 : ∀ (z0 : Nat) (z1 : Int32) (z2 : Int32) (z3 : Int32) (z4 : Int32) (z5 : Int32), AO l g M_X12_far false h 90 [(0, .ref z0), (1, .int z1), (2, .int z2), (3, .int z3), (4, .int z4), (5, .int z5)] [] h 0 0 (rPi h) (K90 z0 z1 z2 z3 z4 z5)) (x0 : Nat) (x1 : Int32) (x2 : Int32) (x3 : Int32) (x5 : Int32) (s5 : Int32) : AO l g M_X12_far false h 150 [(0, .ref x0), (1, .int x1), (2, .int x2), (3, .int x3), (5, .int x5)] [.int s5] h 0 0 (rPi h) (f_X12_far_b150 h N K4 K90 x0 x1 x2 x3 x5 s5) := by
  unfold f_X12_far_b150
  refine a_istore (lc2 := [(4, .int s5), (0, .ref x0), (1, .int x1), (2, .int x2), (3, .int x3), (5, .int x5)]) dX12_far_150 (by decide) rfl ?_
  refine a_iinc (q := 5) (v := (x5 + 1)) (lc2 := [(5, .int (x5 + 1)), (4, .int s5), (0, .ref x0), (1, .int x1), (2, .int x2), (3, .int x3)]) dX12_far_152 rfl rfl (by decide) rfl ?_
  refine a_goto 90 dX12_far_155 (by decide) ?_
  refine a_pick (lc2 := [(0, .ref x0), (1, .int x1), (2, .int x2), (3, .int x3), (4, .int s5), (5, .int (x5 + 1))]) [2, 3, 4, 5, 1, 0] rfl ?_
  exact hK90 x0 x1 x2 x3 s5 (x5 + 1)
set_option maxRecDepth 100000 in
set_option maxHeartbeats 4000000 in
theorem t_X12_far_b143 (h : AH) (N : Nat) (K4 : Nat → Int32 → Int32 → Int32 → Option Int32) (hK4 : ∀ (z0 : Nat) (z1 : Int32) (z2 : Int32) (z3 : Int32), AO l g M_X12_far false h 4 [(0, .ref z0), (1, .int z1), (2, .int z2), (3, .int z3)] [] h 0 0 (rPi h) (K4 z0 z1 z2 z3)) (K90 : Nat → Int32 → Int32 → Int32 → Int32 → Int32 → Option Int32) (hK90 : ∀ (z0 : Nat) (z1 : Int32) (z2 : Int32) (z3 : Int32) (z4 : Int32) (z5 : Int32), AO l g M_X12_far false h 90 [(0, .ref z0), (1, .int z1), (2, .int z2), (3, .int z3), (4, .int z4), (5, .int z5)] [] h 0 0 (rPi h) (K90 z0 z1 z2 z3 z4 z5)) (x0 : Nat) (x1 : Int32) (x2 : Int32) (x3 : Int32) (x5 : Int32) (x6 : Int32) : AO l g M_X12_far false h 143 [(0, .ref x0), (1, .int x1), (2, .int x2), (3, .int x3), (5, .int x5), (6, .int x6)] [] h 0 0 (rPi h) (f_X12_far_b143 h N K4 K90 x0 x1 x2 x3 x5 x6) := by
  unfold f_X12_far_b143
  refine a_iload dX12_far_143 5 rfl ?_
  refine a_goto 150 dX12_far_145 (by decide) ?_
  refine a_pick (lc2 := [(0, .ref x0), (1, .int x1), (2, .int x2), (3, .int x3), (5, .int x5)]) [0, 1, 2, 3, 4] rfl ?_
  exact t_X12_far_b150 h N K4 hK4 K90 hK90 x0 x1 x2 x3 x5 x6
set_option maxRecDepth 100000 in
set_option maxHeartbeats 4000000 in
theorem t_X12_far_b148 (h : AH) (N : Nat) (K4 : Nat → Int32 → Int32 → Int32 → Option Int32) (hK4 : ∀ (z0 : Nat) (z1 : Int32) (z2 : Int32) (z3 : Int32), AO l g M_X12_far false h 4 [(0, .ref z0), (1, .int z1), (2, .int z2), (3, .int z3)] [] h 0 0 (rPi h) (K4 z0 z1 z2 z3)) (K90 : Nat → Int32 → Int32 → Int32 → Int32 → Int32 → Option Int32) (hK90 : ∀ (z0 : Nat) (z1 : Int32) (z2 : Int32) (z3 : Int32) (z4 : Int32) (z5 : Int32), AO l g M_X12_far false h 90 [(0, .ref z0), (1, .int z1), (2, .int z2), (3, .int z3), (4, .int z4), (5, .int z5)] [] h 0 0 (rPi h) (K90 z0 z1 z2 z3 z4 z5)) (x0 : Nat) (x1 : Int32) (x2 : Int32) (x3 : Int32) (x4 : Int32) (x5 : Int32) : AO l g M_X12_far false h 148 [(0, .ref x0), (1, .int x1), (2, .int x2), (3, .int x3), (4, .int x4), (5, .int x5)] [] h 0 0 (rPi h) (f_X12_far_b148 h N K4 K90 x0 x1 x2 x3 x4 x5) := by
  unfold f_X12_far_b148
  refine a_iload dX12_far_148 4 rfl ?_
  refine a_pick (lc2 := [(0, .ref x0), (1, .int x1), (2, .int x2), (3, .int x3), (5, .int x5)]) [0, 1, 2, 3, 5] rfl ?_
  exact t_X12_far_b150 h N K4 hK4 K90 hK90 x0 x1 x2 x3 x5 x4
set_option maxRecDepth 100000 in
set_option maxHeartbeats 4000000 in
theorem t_X12_far_b178 (h : AH) (N : Nat) (K4 : Nat → Int32 → Int32 → Int32 → Option Int32) (hK4 : ∀ (z0 : Nat) (z1 : Int32) (z2 : Int32) (z3 : Int32), AO l g M_X12_far false h 4 [(0, .ref z0), (1, .int z1), (2, .int z2), (3, .int z3)] [] h 0 0 (rPi h) (K4 z0 z1 z2 z3)) (x0 : Nat) (x1 : Int32) (x3 : Int32) (s3 : Int32) (s4 : Int32) : AO l g M_X12_far false h 178 [(0, .ref x0), (1, .int x1), (3, .int x3)] [.int s3, .int s4] h 0 0 (rPi h) (f_X12_far_b178 h N K4 x0 x1 x3 s3 s4) := by
  unfold f_X12_far_b178
  refine a_iadd dX12_far_178 ?_
  refine a_istore_n (lc2 := [(2, .int (s4 + s3)), (0, .ref x0), (1, .int x1), (3, .int x3)]) dX12_far_179 rfl (by decide) rfl ?_
  refine a_iinc (q := 3) (v := (x3 + 1)) (lc2 := [(3, .int (x3 + 1)), (2, .int (s4 + s3)), (0, .ref x0), (1, .int x1)]) dX12_far_180 rfl rfl (by decide) rfl ?_
  refine a_goto 4 dX12_far_183 (by decide) ?_
  refine a_pick (lc2 := [(0, .ref x0), (1, .int x1), (2, .int (s4 + s3)), (3, .int (x3 + 1))]) [2, 3, 1, 0] rfl ?_
  exact hK4 x0 x1 (s4 + s3) (x3 + 1)
set_option maxRecDepth 100000 in
set_option maxHeartbeats 4000000 in
theorem t_X12_far_b90_body (h : AH) (N : Nat) (K4 : Nat → Int32 → Int32 → Int32 → Option Int32) (hK4 : ∀ (z0 : Nat) (z1 : Int32) (z2 : Int32) (z3 : Int32), AO l g M_X12_far false h 4 [(0, .ref z0), (1, .int z1), (2, .int z2), (3, .int z3)] [] h 0 0 (rPi h) (K4 z0 z1 z2 z3)) (K90 : Nat → Int32 → Int32 → Int32 → Int32 → Int32 → Option Int32) (hK90 : ∀ (z0 : Nat) (z1 : Int32) (z2 : Int32) (z3 : Int32) (z4 : Int32) (z5 : Int32), AO l g M_X12_far false h 90 [(0, .ref z0), (1, .int z1), (2, .int z2), (3, .int z3), (4, .int z4), (5, .int z5)] [] h 0 0 (rPi h) (K90 z0 z1 z2 z3 z4 z5)) (x0 : Nat) (x1 : Int32) (x2 : Int32) (x3 : Int32) (x4 : Int32) (x5 : Int32) : AO l g M_X12_far false h 90 [(0, .ref x0), (1, .int x1), (2, .int x2), (3, .int x3), (4, .int x4), (5, .int x5)] [] h 0 0 (rPi h) (f_X12_far_b90_body h N K4 K90 x0 x1 x2 x3 x4 x5) := by
  unfold f_X12_far_b90_body
  refine a_iload dX12_far_90 5 rfl ?_
  refine a_aload_n dX12_far_92 rfl 0 rfl ?_
  refine a_geti kc13 46 dX12_far_93 (by decide) rfl w_fieldLink_RainCoverModel_380 (fun v14 => ?_)
  refine a_icmp_ge 158 dX12_far_96 (by decide) (fun c15 => ?_) (fun c15 => ?_)
  · refine a_iload_n dX12_far_158 rfl 2 rfl ?_
    refine a_iload dX12_far_159 4 rfl ?_
    refine a_iconst (v := (-1)) dX12_far_161 (by decide) ?_
    refine a_icmp_ne 169 dX12_far_162 (by decide) (fun c16 => ?_) (fun c16 => ?_)
    · refine a_iconst (v := 0) dX12_far_165 (by decide) ?_
      refine a_goto 178 dX12_far_166 (by decide) ?_
      refine a_pick (lc2 := [(0, .ref x0), (1, .int x1), (3, .int x3)]) [0, 1, 3] rfl ?_
      exact t_X12_far_b178 h N K4 hK4 x0 x1 x3 0 x2
    · refine a_aload_n dX12_far_169 rfl 0 rfl ?_
      refine a_getr kc13 30 dX12_far_170 (by decide) rfl w_fieldLink_RainCoverModel_91 (fun v17 => ?_)
      refine a_iload_n dX12_far_173 rfl 3 rfl ?_
      refine a_iald dX12_far_174 (fun v18 => ?_)
      refine a_iload dX12_far_175 4 rfl ?_
      refine a_imul dX12_far_177 ?_
      refine a_pick (lc2 := [(0, .ref x0), (1, .int x1), (3, .int x3)]) [0, 1, 3] rfl ?_
      exact t_X12_far_b178 h N K4 hK4 x0 x1 x3 (v18 * x4) x2
  · refine a_aload_n dX12_far_99 rfl 0 rfl ?_
    refine a_iload_n dX12_far_100 rfl 3 rfl ?_
    refine a_aload_n dX12_far_101 rfl 0 rfl ?_
    refine a_getr kc13 47 dX12_far_102 (by decide) rfl w_fieldLink_RainCoverModel_133 (fun v19 => ?_)
    refine a_iload dX12_far_105 5 rfl ?_
    refine a_iald dX12_far_107 (fun v20 => ?_)
    refine a_aload_n dX12_far_108 rfl 0 rfl ?_
    refine a_getr kc13 48 dX12_far_109 (by decide) rfl w_fieldLink_RainCoverModel_136 (fun v21 => ?_)
    refine a_iload dX12_far_112 5 rfl ?_
    refine a_iald dX12_far_114 (fun v22 => ?_)
    refine a_cV_Pi (r := x0) (ci := 13) (as := [.int x3, .int v20, .int v22]) (st := []) dX12_far_115 (c_X12_farFrom l g h x0 x3 v20 v22) rfl km_X12_farFrom (hm_X12_farFrom) rfl (by decide) rfl (fun _ ee => g_X12_farFrom ee) w_methodLink_RainCoverModel_334 w_instanceMethod_RainCoverModel_farFrom__III_I w_selects_RainCoverModel_RainCoverModel_farFrom__III_I_RainCoverModel_farFrom__III_I ⟨⟨by decide, by decide⟩, ⟨by decide, by decide⟩⟩ (Nat.le_of_ble_eq_true rfl) (fun v23 => ?_)
    refine a_istore (lc2 := [(6, .int v23), (0, .ref x0), (1, .int x1), (2, .int x2), (3, .int x3), (4, .int x4), (5, .int x5)]) dX12_far_118 (by decide) rfl ?_
    refine a_iload_n dX12_far_120 rfl 2 rfl ?_
    refine a_iload dX12_far_121 6 rfl ?_
    refine a_ishr dX12_far_123 ?_
    refine a_iconst (v := 1) dX12_far_124 (by decide) ?_
    refine a_iand dX12_far_125 ?_
    refine a_iconst (v := 1) dX12_far_126 (by decide) ?_
    refine a_icmp_ne 148 dX12_far_127 (by decide) (fun c24 => ?_) (fun c24 => ?_)
    · refine a_iload dX12_far_130 5 rfl ?_
      refine a_iconst (v := (-1)) dX12_far_132 (by decide) ?_
      refine a_icmp_eq 143 dX12_far_133 (by decide) (fun c25 => ?_) (fun c25 => ?_)
      · refine a_pick (lc2 := [(0, .ref x0), (1, .int x1), (2, .int x2), (3, .int x3), (5, .int x5), (6, .int v23)]) [1, 2, 3, 4, 6, 0] rfl ?_
        exact t_X12_far_b143 h N K4 hK4 K90 hK90 x0 x1 x2 x3 x5 v23
      · refine a_iload dX12_far_136 0 rfl ?_
        refine a_iload dX12_far_138 5 rfl ?_
        refine a_icmp_ge 148 dX12_far_140 (by decide) (fun c26 => ?_) (fun c26 => ?_)
        · refine a_pick (lc2 := [(0, .ref x0), (1, .int x1), (2, .int x2), (3, .int x3), (4, .int x4), (5, .int x5)]) [1, 2, 3, 4, 5, 6] rfl ?_
          exact t_X12_far_b148 h N K4 hK4 K90 hK90 x0 x1 x2 x3 x4 x5
        · refine a_pick (lc2 := [(0, .ref x0), (1, .int x1), (2, .int x2), (3, .int x3), (5, .int x5), (6, .int v23)]) [1, 2, 3, 4, 6, 0] rfl ?_
          exact t_X12_far_b143 h N K4 hK4 K90 hK90 x0 x1 x2 x3 x5 v23
    · refine a_pick (lc2 := [(0, .ref x0), (1, .int x1), (2, .int x2), (3, .int x3), (4, .int x4), (5, .int x5)]) [1, 2, 3, 4, 5, 6] rfl ?_
      exact t_X12_far_b148 h N K4 hK4 K90 hK90 x0 x1 x2 x3 x4 x5
set_option maxRecDepth 100000 in
set_option maxHeartbeats 4000000 in
theorem t_X12_far_b90 (h : AH) (N : Nat) (K4 : Nat → Int32 → Int32 → Int32 → Option Int32) (hK4 : ∀ (z0 : Nat) (z1 : Int32) (z2 : Int32) (z3 : Int32), AO l g M_X12_far false h 4 [(0, .ref z0), (1, .int z1), (2, .int z2), (3, .int z3)] [] h 0 0 (rPi h) (K4 z0 z1 z2 z3)) : ∀ (n : Nat) (x0 : Nat) (x1 : Int32) (x2 : Int32) (x3 : Int32) (x4 : Int32) (x5 : Int32) , AO l g M_X12_far false h 90 [(0, .ref x0), (1, .int x1), (2, .int x2), (3, .int x3), (4, .int x4), (5, .int x5)] [] h 0 0 (rPi h) (f_X12_far_b90 h N K4 n x0 x1 x2 x3 x4 x5) := by
  intro n
  induction n with
  | zero => intro x0 x1 x2 x3 x4 x5; exact a_eq rfl a_none
  | succ n ih => intro x0 x1 x2 x3 x4 x5; exact a_eq rfl (t_X12_far_b90_body h N (K4) (hK4) (f_X12_far_b90 h N K4 n) ih x0 x1 x2 x3 x4 x5)
set_option maxRecDepth 100000 in
set_option maxHeartbeats 4000000 in
theorem t_X12_far_b18_body (h : AH) (N : Nat) (K4 : Nat → Int32 → Int32 → Int32 → Option Int32) (hK4 : ∀ (z0 : Nat) (z1 : Int32) (z2 : Int32) (z3 : Int32), AO l g M_X12_far false h 4 [(0, .ref z0), (1, .int z1), (2, .int z2), (3, .int z3)] [] h 0 0 (rPi h) (K4 z0 z1 z2 z3)) (K18 : Nat → Int32 → Int32 → Int32 → Int32 → Int32 → Option Int32) (hK18 : ∀ (z0 : Nat) (z1 : Int32) (z2 : Int32) (z3 : Int32) (z4 : Int32) (z5 : Int32), AO l g M_X12_far false h 18 [(0, .ref z0), (1, .int z1), (2, .int z2), (3, .int z3), (4, .int z4), (5, .int z5)] [] h 0 0 (rPi h) (K18 z0 z1 z2 z3 z4 z5)) (x0 : Nat) (x1 : Int32) (x2 : Int32) (x3 : Int32) (x4 : Int32) (x5 : Int32) : AO l g M_X12_far false h 18 [(0, .ref x0), (1, .int x1), (2, .int x2), (3, .int x3), (4, .int x4), (5, .int x5)] [] h 0 0 (rPi h) (f_X12_far_b18_body h N K4 K18 x0 x1 x2 x3 x4 x5) := by
  unfold f_X12_far_b18_body
  refine a_iload dX12_far_18 5 rfl ?_
  refine a_aload_n dX12_far_20 rfl 0 rfl ?_
  refine a_geti kc13 0 dX12_far_21 (by decide) rfl w_fieldLink_RainCoverModel_208 (fun v3 => ?_)
  refine a_icmp_ge 87 dX12_far_24 (by decide) (fun c4 => ?_) (fun c4 => ?_)
  · refine a_iconst (v := 0) dX12_far_87 (by decide) ?_
    refine a_istore (lc2 := [(5, .int 0), (0, .ref x0), (1, .int x1), (2, .int x2), (3, .int x3), (4, .int x4)]) dX12_far_88 (by decide) rfl ?_
    refine a_pick (lc2 := [(0, .ref x0), (1, .int x1), (2, .int x2), (3, .int x3), (4, .int x4), (5, .int 0)]) [1, 2, 3, 4, 5, 0] rfl ?_
    exact t_X12_far_b90 h N K4 hK4 N x0 x1 x2 x3 x4 0
  · refine a_aload_n dX12_far_27 rfl 0 rfl ?_
    refine a_iload_n dX12_far_28 rfl 3 rfl ?_
    refine a_aload_n dX12_far_29 rfl 0 rfl ?_
    refine a_getr kc13 1 dX12_far_30 (by decide) rfl w_fieldLink_RainCoverModel_9 (fun v5 => ?_)
    refine a_iload dX12_far_33 5 rfl ?_
    refine a_iald dX12_far_35 (fun v6 => ?_)
    refine a_aload_n dX12_far_36 rfl 0 rfl ?_
    refine a_getr kc13 2 dX12_far_37 (by decide) rfl w_fieldLink_RainCoverModel_15 (fun v7 => ?_)
    refine a_iload dX12_far_40 5 rfl ?_
    refine a_iald dX12_far_42 (fun v8 => ?_)
    refine a_cV_Pi (r := x0) (ci := 13) (as := [.int x3, .int v6, .int v8]) (st := []) dX12_far_43 (c_X12_farFrom l g h x0 x3 v6 v8) rfl km_X12_farFrom (hm_X12_farFrom) rfl (by decide) rfl (fun _ ee => g_X12_farFrom ee) w_methodLink_RainCoverModel_334 w_instanceMethod_RainCoverModel_farFrom__III_I w_selects_RainCoverModel_RainCoverModel_farFrom__III_I_RainCoverModel_farFrom__III_I ⟨⟨by decide, by decide⟩, ⟨by decide, by decide⟩⟩ (Nat.le_of_ble_eq_true rfl) (fun v9 => ?_)
    refine a_istore (lc2 := [(6, .int v9), (0, .ref x0), (1, .int x1), (2, .int x2), (3, .int x3), (4, .int x4), (5, .int x5)]) dX12_far_46 (by decide) rfl ?_
    refine a_aload_n dX12_far_48 rfl 1 rfl ?_
    refine a_iload dX12_far_49 6 rfl ?_
    refine a_bipush (v := 15) dX12_far_51 (by decide) ?_
    refine a_cV_Pi (r := x0) (ci := 13) (as := [.int x5, .int 15]) (st := []) dX12_far_53 (c_X12_stands l g h x0 x5 15) rfl km_X12_stands (hm_X12_stands) rfl (by decide) rfl (fun _ ee => g_X12_stands ee) w_methodLink_RainCoverModel_337 w_instanceMethod_RainCoverModel_stands__II_Z w_selects_RainCoverModel_RainCoverModel_stands__II_Z_RainCoverModel_stands__II_Z ⟨⟨by decide, by decide⟩, ⟨by decide, by decide⟩⟩ (Nat.le_of_ble_eq_true rfl) (fun v10 => ?_)
    refine a_if_eq 77 dX12_far_56 (by decide) (fun c11 => ?_) (fun c11 => ?_)
    · refine a_pick (lc2 := [(0, .ref x0), (1, .int x1), (2, .int x2), (3, .int x3), (4, .int x4), (5, .int x5)]) [1, 2, 3, 4, 5, 6] rfl ?_
      exact t_X12_far_b77 h N K4 hK4 K18 hK18 x0 x1 x2 x3 x4 x5
    · refine a_iload dX12_far_59 5 rfl ?_
      refine a_iconst (v := (-1)) dX12_far_61 (by decide) ?_
      refine a_icmp_eq 72 dX12_far_62 (by decide) (fun c12 => ?_) (fun c12 => ?_)
      · refine a_pick (lc2 := [(0, .ref x0), (1, .int x1), (2, .int x2), (3, .int x3), (5, .int x5), (6, .int v9)]) [1, 2, 3, 4, 6, 0] rfl ?_
        exact t_X12_far_b72 h N K4 hK4 K18 hK18 x0 x1 x2 x3 x5 v9
      · refine a_iload dX12_far_65 0 rfl ?_
        refine a_iload dX12_far_67 5 rfl ?_
        refine a_icmp_ge 77 dX12_far_69 (by decide) (fun c13 => ?_) (fun c13 => ?_)
        · refine a_pick (lc2 := [(0, .ref x0), (1, .int x1), (2, .int x2), (3, .int x3), (4, .int x4), (5, .int x5)]) [1, 2, 3, 4, 5, 6] rfl ?_
          exact t_X12_far_b77 h N K4 hK4 K18 hK18 x0 x1 x2 x3 x4 x5
        · refine a_pick (lc2 := [(0, .ref x0), (1, .int x1), (2, .int x2), (3, .int x3), (5, .int x5), (6, .int v9)]) [1, 2, 3, 4, 6, 0] rfl ?_
          exact t_X12_far_b72 h N K4 hK4 K18 hK18 x0 x1 x2 x3 x5 v9
set_option maxRecDepth 100000 in
set_option maxHeartbeats 4000000 in
theorem t_X12_far_b18 (h : AH) (N : Nat) (K4 : Nat → Int32 → Int32 → Int32 → Option Int32) (hK4 : ∀ (z0 : Nat) (z1 : Int32) (z2 : Int32) (z3 : Int32), AO l g M_X12_far false h 4 [(0, .ref z0), (1, .int z1), (2, .int z2), (3, .int z3)] [] h 0 0 (rPi h) (K4 z0 z1 z2 z3)) : ∀ (n : Nat) (x0 : Nat) (x1 : Int32) (x2 : Int32) (x3 : Int32) (x4 : Int32) (x5 : Int32) , AO l g M_X12_far false h 18 [(0, .ref x0), (1, .int x1), (2, .int x2), (3, .int x3), (4, .int x4), (5, .int x5)] [] h 0 0 (rPi h) (f_X12_far_b18 h N K4 n x0 x1 x2 x3 x4 x5) := by
  intro n
  induction n with
  | zero => intro x0 x1 x2 x3 x4 x5; exact a_eq rfl a_none
  | succ n ih => intro x0 x1 x2 x3 x4 x5; exact a_eq rfl (t_X12_far_b18_body h N (K4) (hK4) (f_X12_far_b18 h N K4 n) ih x0 x1 x2 x3 x4 x5)
set_option maxRecDepth 100000 in
set_option maxHeartbeats 4000000 in
theorem t_X12_far_b4_body (h : AH) (N : Nat) (K4 : Nat → Int32 → Int32 → Int32 → Option Int32) (hK4 : ∀ (z0 : Nat) (z1 : Int32) (z2 : Int32) (z3 : Int32), AO l g M_X12_far false h 4 [(0, .ref z0), (1, .int z1), (2, .int z2), (3, .int z3)] [] h 0 0 (rPi h) (K4 z0 z1 z2 z3)) (x0 : Nat) (x1 : Int32) (x2 : Int32) (x3 : Int32) : AO l g M_X12_far false h 4 [(0, .ref x0), (1, .int x1), (2, .int x2), (3, .int x3)] [] h 0 0 (rPi h) (f_X12_far_b4_body h N K4 x0 x1 x2 x3) := by
  unfold f_X12_far_b4_body
  refine a_iload_n dX12_far_4 rfl 3 rfl ?_
  refine a_aload_n dX12_far_5 rfl 0 rfl ?_
  refine a_geti kc13 26 dX12_far_6 (by decide) rfl w_fieldLink_RainCoverModel_214 (fun v1 => ?_)
  refine a_icmp_ge 186 dX12_far_9 (by decide) (fun c2 => ?_) (fun c2 => ?_)
  · refine a_iload_n dX12_far_186 rfl 2 rfl ?_
    exact a_iret dX12_far_187 rfl rfl (by decide) (by decide)
  · refine a_iconst (v := (-1)) dX12_far_12 (by decide) ?_
    refine a_istore (lc2 := [(4, .int (-1)), (0, .ref x0), (1, .int x1), (2, .int x2), (3, .int x3)]) dX12_far_13 (by decide) rfl ?_
    refine a_iconst (v := 0) dX12_far_15 (by decide) ?_
    refine a_istore (lc2 := [(5, .int 0), (4, .int (-1)), (0, .ref x0), (1, .int x1), (2, .int x2), (3, .int x3)]) dX12_far_16 (by decide) rfl ?_
    refine a_pick (lc2 := [(0, .ref x0), (1, .int x1), (2, .int x2), (3, .int x3), (4, .int (-1)), (5, .int 0)]) [2, 3, 4, 5, 1, 0] rfl ?_
    exact t_X12_far_b18 h N K4 hK4 N x0 x1 x2 x3 (-1) 0
set_option maxRecDepth 100000 in
set_option maxHeartbeats 4000000 in
theorem t_X12_far_b4 (h : AH) (N : Nat) : ∀ (n : Nat) (x0 : Nat) (x1 : Int32) (x2 : Int32) (x3 : Int32) , AO l g M_X12_far false h 4 [(0, .ref x0), (1, .int x1), (2, .int x2), (3, .int x3)] [] h 0 0 (rPi h) (f_X12_far_b4 h N  n x0 x1 x2 x3) := by
  intro n
  induction n with
  | zero => intro x0 x1 x2 x3; exact a_eq rfl a_none
  | succ n ih => intro x0 x1 x2 x3; exact a_eq rfl (t_X12_far_b4_body h N  (f_X12_far_b4 h N  n) ih x0 x1 x2 x3)
end
set_option maxRecDepth 100000 in
set_option maxHeartbeats 4000000 in
theorem c_X12_far (l : Launch) (g : GG) (h : AH) (N : Nat) (p0 : Nat) (p1 : Int32) : CN l g yX12_far M_X12_far false [.ref p0, .int p1] h ((rPi h)) (f_X12_far h N p0 p1) := by
  refine CN.of (by decide) rfl (fun hh => by first | rfl | cases hh) (Nat.le_of_ble_eq_true rfl) ?_
  unfold f_X12_far
  refine a_gd (fun hkd => ?_)
  refine a_iconst (v := 0) dX12_far_0 (by decide) ?_
  refine a_istore_n (lc2 := [(2, .int 0), (0, .ref p0), (1, .int p1)]) dX12_far_1 rfl (by decide) rfl ?_
  refine a_iconst (v := 0) dX12_far_2 (by decide) ?_
  refine a_istore_n (lc2 := [(3, .int 0), (2, .int 0), (0, .ref p0), (1, .int p1)]) dX12_far_3 rfl (by decide) rfl ?_
  refine a_pick (lc2 := [(0, .ref p0), (1, .int p1), (2, .int 0), (3, .int 0)]) [2, 3, 1, 0] rfl ?_
  exact t_X12_far_b4 h N N p0 p1 0 0
