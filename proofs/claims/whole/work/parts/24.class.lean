theorem dX11_payOn_0 : decode cX11_payOn 0 = .ok (.bipush 8, 2) := by decide +kernel
theorem dX11_payOn_2 : decode cX11_payOn 2 = .ok (.aload_n 0, 1) := by decide +kernel
theorem dX11_payOn_3 : decode cX11_payOn 3 = .ok (.getfield 12, 3) := by decide +kernel
theorem dX11_payOn_6 : decode cX11_payOn 6 = .ok (.iload_n 2, 1) := by decide +kernel
theorem dX11_payOn_7 : decode cX11_payOn 7 = .ok (.invokevirtual 124, 3) := by decide +kernel
theorem dX11_payOn_10 : decode cX11_payOn 10 = .ok (.checkcast 108, 3) := by decide +kernel
theorem dX11_payOn_13 : decode cX11_payOn 13 = .ok (.getfield 182, 3) := by decide +kernel
theorem dX11_payOn_16 : decode cX11_payOn 16 = .ok (.bipush 25, 2) := by decide +kernel
theorem dX11_payOn_18 : decode cX11_payOn 18 = .ok (.idiv, 1) := by decide +kernel
theorem dX11_payOn_19 : decode cX11_payOn 19 = .ok (.iadd, 1) := by decide +kernel
theorem dX11_payOn_20 : decode cX11_payOn 20 = .ok (.istore 7, 2) := by decide +kernel
theorem dX11_payOn_22 : decode cX11_payOn 22 = .ok (.iconst 0, 1) := by decide +kernel
theorem dX11_payOn_23 : decode cX11_payOn 23 = .ok (.istore 8, 2) := by decide +kernel
theorem dX11_payOn_25 : decode cX11_payOn 25 = .ok (.iload 8, 2) := by decide +kernel
theorem dX11_payOn_27 : decode cX11_payOn 27 = .ok (.bipush 12, 2) := by decide +kernel
theorem dX11_payOn_29 : decode cX11_payOn 29 = .ok (.if_icmp .ge 47, 3) := by decide +kernel
theorem dX11_payOn_32 : decode cX11_payOn 32 = .ok (.aload_n 0, 1) := by decide +kernel
theorem dX11_payOn_33 : decode cX11_payOn 33 = .ok (.getfield 84, 3) := by decide +kernel
theorem dX11_payOn_36 : decode cX11_payOn 36 = .ok (.iload 8, 2) := by decide +kernel
theorem dX11_payOn_38 : decode cX11_payOn 38 = .ok (.aload_n 0, 1) := by decide +kernel
theorem dX11_payOn_39 : decode cX11_payOn 39 = .ok (.iload_n 2, 1) := by decide +kernel
theorem dX11_payOn_40 : decode cX11_payOn 40 = .ok (.iload_n 3, 1) := by decide +kernel
theorem dX11_payOn_41 : decode cX11_payOn 41 = .ok (.iload 8, 2) := by decide +kernel
theorem dX11_payOn_43 : decode cX11_payOn 43 = .ok (.iload 6, 2) := by decide +kernel
theorem dX11_payOn_45 : decode cX11_payOn 45 = .ok (.invokevirtual 169, 3) := by decide +kernel
theorem dX11_payOn_48 : decode cX11_payOn 48 = .ok (.iastore, 1) := by decide +kernel
theorem dX11_payOn_49 : decode cX11_payOn 49 = .ok (.aload_n 0, 1) := by decide +kernel
theorem dX11_payOn_50 : decode cX11_payOn 50 = .ok (.getfield 87, 3) := by decide +kernel
theorem dX11_payOn_53 : decode cX11_payOn 53 = .ok (.iload 8, 2) := by decide +kernel
theorem dX11_payOn_55 : decode cX11_payOn 55 = .ok (.aload_n 0, 1) := by decide +kernel
theorem dX11_payOn_56 : decode cX11_payOn 56 = .ok (.getfield 30, 3) := by decide +kernel
theorem dX11_payOn_59 : decode cX11_payOn 59 = .ok (.iload 7, 2) := by decide +kernel
theorem dX11_payOn_61 : decode cX11_payOn 61 = .ok (.iload_n 3, 1) := by decide +kernel
theorem dX11_payOn_62 : decode cX11_payOn 62 = .ok (.iload 8, 2) := by decide +kernel
theorem dX11_payOn_64 : decode cX11_payOn 64 = .ok (.iload 6, 2) := by decide +kernel
theorem dX11_payOn_66 : decode cX11_payOn 66 = .ok (.invokevirtual 147, 3) := by decide +kernel
theorem dX11_payOn_69 : decode cX11_payOn 69 = .ok (.iastore, 1) := by decide +kernel
theorem dX11_payOn_70 : decode cX11_payOn 70 = .ok (.iinc 8 1, 3) := by decide +kernel
theorem dX11_payOn_73 : decode cX11_payOn 73 = .ok (.goto (-48), 3) := by decide +kernel
theorem dX11_payOn_76 : decode cX11_payOn 76 = .ok (.aload_n 0, 1) := by decide +kernel
theorem dX11_payOn_77 : decode cX11_payOn 77 = .ok (.getfield 18, 3) := by decide +kernel
theorem dX11_payOn_80 : decode cX11_payOn 80 = .ok (.iload_n 1, 1) := by decide +kernel
theorem dX11_payOn_81 : decode cX11_payOn 81 = .ok (.invokevirtual 124, 3) := by decide +kernel
theorem dX11_payOn_84 : decode cX11_payOn 84 = .ok (.checkcast 215, 3) := by decide +kernel
theorem dX11_payOn_87 : decode cX11_payOn 87 = .ok (.aload_n 0, 1) := by decide +kernel
theorem dX11_payOn_88 : decode cX11_payOn 88 = .ok (.getfield 84, 3) := by decide +kernel
theorem dX11_payOn_91 : decode cX11_payOn 91 = .ok (.aload_n 0, 1) := by decide +kernel
theorem dX11_payOn_92 : decode cX11_payOn 92 = .ok (.getfield 87, 3) := by decide +kernel
theorem dX11_payOn_95 : decode cX11_payOn 95 = .ok (.iload 4, 2) := by decide +kernel
theorem dX11_payOn_97 : decode cX11_payOn 97 = .ok (.getstatic 226, 3) := by decide +kernel
theorem dX11_payOn_100 : decode cX11_payOn 100 = .ok (.iload 5, 2) := by decide +kernel
theorem dX11_payOn_102 : decode cX11_payOn 102 = .ok (.iaload, 1) := by decide +kernel
theorem dX11_payOn_103 : decode cX11_payOn 103 = .ok (.invokevirtual 229, 3) := by decide +kernel
theorem dX11_payOn_106 : decode cX11_payOn 106 = .ok (.ireturn, 1) := by decide +kernel
abbrev M_X11_payOn : MI := (RX11, cX11_payOn, 9, (some .int), ({ frames := 5, cells := 0, slots := 0, locals := 120 } : Room), 0, 0, false)
def f_X11_payOn_b25_body (N : Nat) (K25 : AH → Nat → Int32 → Int32 → Int32 → Int32 → Int32 → Int32 → Int32 → Int32 → Option (Int32 × AH)) (h : AH) (x0 : Nat) (x1 : Int32) (x2 : Int32) (x3 : Int32) (x4 : Int32) (x5 : Int32) (x6 : Int32) (x7 : Int32) (x8 : Int32) : Option (Int32 × AH) := (if 12 ≤ x8 then (xgr h x0 12 1).bind fun v6 => (f_Jx4a65c_get_915e3 h v6 x1).bind fun v7 => (xcc h v7 11).bind fun _ => (xgr h x0 12 16).bind fun v8 => (xgr h x0 12 17).bind fun v9 => (xia h 9001 x5).bind fun v10 => (f_X10_amountFor h N v7 v8 v9 x4 v10).bind fun v11 => some (v11, h) else (xgr h x0 12 16).bind fun v12 => (f_X11_fill h N x0 x2 x3 x8 x6).bind fun v13 => (xis h v12 x8 v13).bind fun h14 => (xgr h14 x0 12 17).bind fun v15 => (xgr h14 x0 12 4).bind fun v16 => (f_X9_asKnown h14 N v16 x7 x3 x8 x6).bind fun v17 => (xis h14 v15 x8 v17).bind fun h18 => K25 h18 x0 x1 x2 x3 x4 x5 x6 x7 (x8 + 1))
def f_X11_payOn_b25 (N : Nat) : Nat → AH → Nat → Int32 → Int32 → Int32 → Int32 → Int32 → Int32 → Int32 → Int32 → Option (Int32 × AH)
  | 0, _, _, _, _, _, _, _, _, _, _ => none
  | n + 1, h, x0, x1, x2, x3, x4, x5, x6, x7, x8 => f_X11_payOn_b25_body N  (f_X11_payOn_b25 N  n) h x0 x1 x2 x3 x4 x5 x6 x7 x8
def f_X11_payOn (h0 : AH) (N : Nat) (p0 : Nat) (p1 : Int32) (p2 : Int32) (p3 : Int32) (p4 : Int32) (p5 : Int32) (p6 : Int32) : Option (Int32 × AH) := if kd h0 p0 = 12 + 1 then (xgr h0 p0 12 0).bind fun v1 => (f_Jx4a65c_get_915e3 h0 v1 p2).bind fun v2 => (xcc h0 v2 4).bind fun _ => (xgi h0 v2 4 0).bind fun v3 => (if 25 = 0 then none else f_X11_payOn_b25 N N h0 p0 p1 p2 p3 p4 p5 p6 (8 + (v3 / 25)) 0) else none
theorem g_X11_payOn {h0 : AH} {N : Nat} {p0 : Nat} {p1 : Int32} {p2 : Int32} {p3 : Int32} {p4 : Int32} {p5 : Int32} {p6 : Int32} {x : (Int32 × AH)} (e : f_X11_payOn h0 N p0 p1 p2 p3 p4 p5 p6 = some x) : kd h0 p0 = 12 + 1 := by
  unfold f_X11_payOn at e
  by_cases hk : kd h0 p0 = 12 + 1
  · exact hk
  · rw [if_neg hk] at e
    cases e
theorem km_X11_payOn : KM yX11_payOn M_X11_payOn 6 := ⟨in_tb 603 (by decide +kernel) rfl, in_tb 1 (by decide +kernel) rfl, by decide +kernel, rfl, rfl⟩
theorem hm_X11_payOn : M_X11_payOn.2.2.2.2.2.1 = 0 ∧ M_X11_payOn.2.2.2.2.2.2.1 = 0 := ⟨rfl, rfl⟩
section
variable {l : Launch} {g : GG}
set_option maxRecDepth 100000 in
set_option maxHeartbeats 4000000 in
theorem t_X11_payOn_b25_body (h0 : AH) (N : Nat) (K25 : AH → Nat → Int32 → Int32 → Int32 → Int32 → Int32 → Int32 → Int32 → Int32 → Option (Int32 × AH)) (hK25 : ∀ (z : AH) (z0 : Nat) (z1 : Int32) (z2 : Int32) (z3 : Int32) (z4 : Int32) (z5 : Int32) (z6 : Int32) (z7 : Int32) (z8 : Int32), AO l g M_X11_payOn false h0 25 [(0, .ref z0), (1, .int z1), (2, .int z2), (3, .int z3), (4, .int z4), (5, .int z5), (6, .int z6), (7, .int z7), (8, .int z8)] [] z 0 0 rSi (K25 z z0 z1 z2 z3 z4 z5 z6 z7 z8)) (h : AH) (x0 : Nat) (x1 : Int32) (x2 : Int32) (x3 : Int32) (x4 : Int32) (x5 : Int32) (x6 : Int32) (x7 : Int32) (x8 : Int32) : AO l g M_X11_payOn false h0 25 [(0, .ref x0), (1, .int x1), (2, .int x2), (3, .int x3), (4, .int x4), (5, .int x5), (6, .int x6), (7, .int x7), (8, .int x8)] [] h 0 0 rSi (f_X11_payOn_b25_body N K25 h x0 x1 x2 x3 x4 x5 x6 x7 x8) := by
  unfold f_X11_payOn_b25_body
  refine a_iload dX11_payOn_25 8 rfl ?_
  refine a_bipush (v := 12) dX11_payOn_27 (by decide) ?_
  refine a_icmp_ge 76 dX11_payOn_29 (by decide) (fun c5 => ?_) (fun c5 => ?_)
  · refine a_aload_n dX11_payOn_76 rfl 0 rfl ?_
    refine a_getr kc12 1 dX11_payOn_77 (by decide) rfl w_fieldLink_RainCover_18 (fun v6 => ?_)
    refine a_iload_n dX11_payOn_80 rfl 1 rfl ?_
    refine a_cV_Pr (r := v6) (ci := 0) (as := [.int x1]) (st := []) dX11_payOn_81 (c_Jx4a65c_get_915e3 l g h v6 x1) rfl km_Jx4a65c_get_915e3 (hm_Jx4a65c_get_915e3) rfl (by decide) rfl (fun _ ee => g_Jx4a65c_get_915e3 ee) w_methodLink_RainCover_124 w_instanceMethod_java_util_ArrayList_get__I_Ljava_lang_Object_ w_selects_java_util_ArrayList_java_util_ArrayList_get__I_Ljava_lang_Object__java_util_ArrayList_get__I_Ljava_lang_Object_ ⟨⟨by decide, by decide⟩, ⟨by decide, by decide⟩⟩ (Nat.le_of_ble_eq_true rfl) (fun v7 => ?_)
    refine a_cast kc11 dX11_payOn_84 w_classLink_RainCover_215 ?_
    refine a_aload_n dX11_payOn_87 rfl 0 rfl ?_
    refine a_getr kc12 16 dX11_payOn_88 (by decide) rfl w_fieldLink_RainCover_84 (fun v8 => ?_)
    refine a_aload_n dX11_payOn_91 rfl 0 rfl ?_
    refine a_getr kc12 17 dX11_payOn_92 (by decide) rfl w_fieldLink_RainCover_87 (fun v9 => ?_)
    refine a_iload dX11_payOn_95 4 rfl ?_
    refine a_gs1 dX11_payOn_97 w_fieldLink_RainCover_226 ?_
    refine a_iload dX11_payOn_100 5 rfl ?_
    refine a_iald dX11_payOn_102 (fun v10 => ?_)
    refine a_cV_Pi (r := v7) (ci := 11) (as := [.ref v8, .ref v9, .int x4, .int v10]) (st := []) dX11_payOn_103 (c_X10_amountFor l g h N v7 v8 v9 x4 v10) rfl km_X10_amountFor (hm_X10_amountFor) rfl (by decide) rfl (fun _ ee => g_X10_amountFor ee) w_methodLink_RainCover_229 w_instanceMethod_RainCover_Term_amountFor___I_III_I w_selects_RainCover_Term_RainCover_Term_amountFor___I_III_I_RainCover_Term_amountFor___I_III_I ⟨⟨by decide, by decide⟩, ⟨by decide, by decide⟩⟩ (Nat.le_of_ble_eq_true rfl) (fun v11 => ?_)
    exact a_iret dX11_payOn_106 rfl rfl (by decide) (by decide)
  · refine a_aload_n dX11_payOn_32 rfl 0 rfl ?_
    refine a_getr kc12 16 dX11_payOn_33 (by decide) rfl w_fieldLink_RainCover_84 (fun v12 => ?_)
    refine a_iload dX11_payOn_36 8 rfl ?_
    refine a_aload_n dX11_payOn_38 rfl 0 rfl ?_
    refine a_iload_n dX11_payOn_39 rfl 2 rfl ?_
    refine a_iload_n dX11_payOn_40 rfl 3 rfl ?_
    refine a_iload dX11_payOn_41 8 rfl ?_
    refine a_iload dX11_payOn_43 6 rfl ?_
    refine a_cV_Pi (r := x0) (ci := 12) (as := [.int x2, .int x3, .int x8, .int x6]) (st := [.int x8, .ref v12]) dX11_payOn_45 (c_X11_fill l g h N x0 x2 x3 x8 x6) rfl km_X11_fill (hm_X11_fill) rfl (by decide) rfl (fun _ ee => g_X11_fill ee) w_methodLink_RainCover_169 w_instanceMethod_RainCover_fill__IIII_I w_selects_RainCover_RainCover_fill__IIII_I_RainCover_fill__IIII_I ⟨⟨by decide, by decide⟩, ⟨by decide, by decide⟩⟩ (Nat.le_of_ble_eq_true rfl) (fun v13 => ?_)
    refine a_iast dX11_payOn_48 (fun h14 => ?_)
    refine a_aload_n dX11_payOn_49 rfl 0 rfl ?_
    refine a_getr kc12 17 dX11_payOn_50 (by decide) rfl w_fieldLink_RainCover_87 (fun v15 => ?_)
    refine a_iload dX11_payOn_53 8 rfl ?_
    refine a_aload_n dX11_payOn_55 rfl 0 rfl ?_
    refine a_getr kc12 4 dX11_payOn_56 (by decide) rfl w_fieldLink_RainCover_30 (fun v16 => ?_)
    refine a_iload dX11_payOn_59 7 rfl ?_
    refine a_iload_n dX11_payOn_61 rfl 3 rfl ?_
    refine a_iload dX11_payOn_62 8 rfl ?_
    refine a_iload dX11_payOn_64 6 rfl ?_
    refine a_cV_Pi (r := v16) (ci := 10) (as := [.int x7, .int x3, .int x8, .int x6]) (st := [.int x8, .ref v15]) dX11_payOn_66 (c_X9_asKnown l g h14 N v16 x7 x3 x8 x6) rfl km_X9_asKnown (hm_X9_asKnown) rfl (by decide) rfl (fun _ ee => g_X9_asKnown ee) w_methodLink_RainCover_147 w_instanceMethod_RainCover_Tellings_asKnown__IIII_I w_selects_RainCover_Tellings_RainCover_Tellings_asKnown__IIII_I_RainCover_Tellings_asKnown__IIII_I ⟨⟨by decide, by decide⟩, ⟨by decide, by decide⟩⟩ (Nat.le_of_ble_eq_true rfl) (fun v17 => ?_)
    refine a_iast dX11_payOn_69 (fun h18 => ?_)
    refine a_iinc (q := 8) (v := (x8 + 1)) (lc2 := [(8, .int (x8 + 1)), (0, .ref x0), (1, .int x1), (2, .int x2), (3, .int x3), (4, .int x4), (5, .int x5), (6, .int x6), (7, .int x7)]) dX11_payOn_70 rfl rfl (by decide) rfl ?_
    refine a_goto 25 dX11_payOn_73 (by decide) ?_
    refine a_pick (lc2 := [(0, .ref x0), (1, .int x1), (2, .int x2), (3, .int x3), (4, .int x4), (5, .int x5), (6, .int x6), (7, .int x7), (8, .int (x8 + 1))]) [1, 2, 3, 4, 5, 6, 7, 8, 0] rfl ?_
    exact hK25 h18 x0 x1 x2 x3 x4 x5 x6 x7 (x8 + 1)
set_option maxRecDepth 100000 in
set_option maxHeartbeats 4000000 in
theorem t_X11_payOn_b25 (h0 : AH) (N : Nat) : ∀ (n : Nat) (h : AH) (x0 : Nat) (x1 : Int32) (x2 : Int32) (x3 : Int32) (x4 : Int32) (x5 : Int32) (x6 : Int32) (x7 : Int32) (x8 : Int32) , AO l g M_X11_payOn false h0 25 [(0, .ref x0), (1, .int x1), (2, .int x2), (3, .int x3), (4, .int x4), (5, .int x5), (6, .int x6), (7, .int x7), (8, .int x8)] [] h 0 0 rSi (f_X11_payOn_b25 N  n h x0 x1 x2 x3 x4 x5 x6 x7 x8) := by
  intro n
  induction n with
  | zero => intro h x0 x1 x2 x3 x4 x5 x6 x7 x8; exact a_eq rfl a_none
  | succ n ih => intro h x0 x1 x2 x3 x4 x5 x6 x7 x8; exact a_eq rfl (t_X11_payOn_b25_body h0 N  (f_X11_payOn_b25 N  n) ih h x0 x1 x2 x3 x4 x5 x6 x7 x8)
end
set_option maxRecDepth 100000 in
set_option maxHeartbeats 4000000 in
theorem c_X11_payOn (l : Launch) (g : GG) (h0 : AH) (N : Nat) (p0 : Nat) (p1 : Int32) (p2 : Int32) (p3 : Int32) (p4 : Int32) (p5 : Int32) (p6 : Int32) : CN l g yX11_payOn M_X11_payOn false [.ref p0, .int p1, .int p2, .int p3, .int p4, .int p5, .int p6] h0 rSi (f_X11_payOn h0 N p0 p1 p2 p3 p4 p5 p6) := by
  refine CN.of (by decide) rfl (fun hh => by first | rfl | cases hh) (Nat.le_of_ble_eq_true rfl) ?_
  unfold f_X11_payOn
  refine a_gd (fun hkd => ?_)
  refine a_bipush (v := 8) dX11_payOn_0 (by decide) ?_
  refine a_aload_n dX11_payOn_2 rfl 0 rfl ?_
  refine a_getr kc12 0 dX11_payOn_3 (by decide) rfl w_fieldLink_RainCover_12 (fun v1 => ?_)
  refine a_iload_n dX11_payOn_6 rfl 2 rfl ?_
  refine a_cV_Pr (r := v1) (ci := 0) (as := [.int p2]) (st := [.int 8]) dX11_payOn_7 (c_Jx4a65c_get_915e3 l g h0 v1 p2) rfl km_Jx4a65c_get_915e3 (hm_Jx4a65c_get_915e3) rfl (by decide) rfl (fun _ ee => g_Jx4a65c_get_915e3 ee) w_methodLink_RainCover_124 w_instanceMethod_java_util_ArrayList_get__I_Ljava_lang_Object_ w_selects_java_util_ArrayList_java_util_ArrayList_get__I_Ljava_lang_Object__java_util_ArrayList_get__I_Ljava_lang_Object_ ⟨⟨by decide, by decide⟩, ⟨by decide, by decide⟩⟩ (Nat.le_of_ble_eq_true rfl) (fun v2 => ?_)
  refine a_cast kc4 dX11_payOn_10 w_classLink_RainCover_108 ?_
  refine a_geti kc4 0 dX11_payOn_13 (by decide) rfl w_fieldLink_RainCover_182 (fun v3 => ?_)
  refine a_bipush (v := 25) dX11_payOn_16 (by decide) ?_
  refine a_idiv dX11_payOn_18 (fun c4 => ?_)
  refine a_iadd dX11_payOn_19 ?_
  refine a_istore (lc2 := [(7, .int (8 + (v3 / 25))), (0, .ref p0), (1, .int p1), (2, .int p2), (3, .int p3), (4, .int p4), (5, .int p5), (6, .int p6)]) dX11_payOn_20 (by decide) rfl ?_
  refine a_iconst (v := 0) dX11_payOn_22 (by decide) ?_
  refine a_istore (lc2 := [(8, .int 0), (7, .int (8 + (v3 / 25))), (0, .ref p0), (1, .int p1), (2, .int p2), (3, .int p3), (4, .int p4), (5, .int p5), (6, .int p6)]) dX11_payOn_23 (by decide) rfl ?_
  refine a_pick (lc2 := [(0, .ref p0), (1, .int p1), (2, .int p2), (3, .int p3), (4, .int p4), (5, .int p5), (6, .int p6), (7, .int (8 + (v3 / 25))), (8, .int 0)]) [2, 3, 4, 5, 6, 7, 8, 1, 0] rfl ?_
  exact t_X11_payOn_b25 h0 N N h0 p0 p1 p2 p3 p4 p5 p6 (8 + (v3 / 25)) 0
theorem dX11_pay_0 : decode cX11_pay 0 = .ok (.aload_n 0, 1) := by decide +kernel
theorem dX11_pay_1 : decode cX11_pay 1 = .ok (.iload_n 1, 1) := by decide +kernel
theorem dX11_pay_2 : decode cX11_pay 2 = .ok (.invokevirtual 219, 3) := by decide +kernel
theorem dX11_pay_5 : decode cX11_pay 5 = .ok (.ifCond .eq 18, 3) := by decide +kernel
theorem dX11_pay_8 : decode cX11_pay 8 = .ok (.aload_n 0, 1) := by decide +kernel
theorem dX11_pay_9 : decode cX11_pay 9 = .ok (.iload_n 2, 1) := by decide +kernel
theorem dX11_pay_10 : decode cX11_pay 10 = .ok (.invokevirtual 117, 3) := by decide +kernel
theorem dX11_pay_13 : decode cX11_pay 13 = .ok (.ifCond .eq 10, 3) := by decide +kernel
theorem dX11_pay_16 : decode cX11_pay 16 = .ok (.iload_n 3, 1) := by decide +kernel
theorem dX11_pay_17 : decode cX11_pay 17 = .ok (.invokestatic 100, 3) := by decide +kernel
theorem dX11_pay_20 : decode cX11_pay 20 = .ok (.ifCond .ne 5, 3) := by decide +kernel
theorem dX11_pay_23 : decode cX11_pay 23 = .ok (.iconst (-1), 1) := by decide +kernel
theorem dX11_pay_24 : decode cX11_pay 24 = .ok (.ireturn, 1) := by decide +kernel
theorem dX11_pay_25 : decode cX11_pay 25 = .ok (.iload 4, 2) := by decide +kernel
theorem dX11_pay_27 : decode cX11_pay 27 = .ok (.iconst 0, 1) := by decide +kernel
theorem dX11_pay_28 : decode cX11_pay 28 = .ok (.iconst 5, 1) := by decide +kernel
theorem dX11_pay_29 : decode cX11_pay 29 = .ok (.invokestatic 120, 3) := by decide +kernel
theorem dX11_pay_32 : decode cX11_pay 32 = .ok (.ifCond .eq 13, 3) := by decide +kernel
theorem dX11_pay_35 : decode cX11_pay 35 = .ok (.iload 5, 2) := by decide +kernel
theorem dX11_pay_37 : decode cX11_pay 37 = .ok (.iconst 0, 1) := by decide +kernel
theorem dX11_pay_38 : decode cX11_pay 38 = .ok (.iconst 3, 1) := by decide +kernel
theorem dX11_pay_39 : decode cX11_pay 39 = .ok (.invokestatic 120, 3) := by decide +kernel
theorem dX11_pay_42 : decode cX11_pay 42 = .ok (.ifCond .ne 6, 3) := by decide +kernel
theorem dX11_pay_45 : decode cX11_pay 45 = .ok (.bipush (-2), 2) := by decide +kernel
theorem dX11_pay_47 : decode cX11_pay 47 = .ok (.ireturn, 1) := by decide +kernel
theorem dX11_pay_48 : decode cX11_pay 48 = .ok (.aload_n 0, 1) := by decide +kernel
theorem dX11_pay_49 : decode cX11_pay 49 = .ok (.iload_n 1, 1) := by decide +kernel
theorem dX11_pay_50 : decode cX11_pay 50 = .ok (.iload_n 2, 1) := by decide +kernel
theorem dX11_pay_51 : decode cX11_pay 51 = .ok (.iload_n 3, 1) := by decide +kernel
theorem dX11_pay_52 : decode cX11_pay 52 = .ok (.iload 4, 2) := by decide +kernel
theorem dX11_pay_54 : decode cX11_pay 54 = .ok (.iload 5, 2) := by decide +kernel
theorem dX11_pay_56 : decode cX11_pay 56 = .ok (.aload_n 0, 1) := by decide +kernel
theorem dX11_pay_57 : decode cX11_pay 57 = .ok (.invokevirtual 179, 3) := by decide +kernel
theorem dX11_pay_60 : decode cX11_pay 60 = .ok (.invokevirtual 222, 3) := by decide +kernel
theorem dX11_pay_63 : decode cX11_pay 63 = .ok (.ireturn, 1) := by decide +kernel
abbrev M_X11_pay : MI := (RX11, cX11_pay, 6, (some .int), ({ frames := 6, cells := 0, slots := 0, locals := 148 } : Room), 0, 0, false)
def f_X11_pay (h0 : AH) (N : Nat) (p0 : Nat) (p1 : Int32) (p2 : Int32) (p3 : Int32) (p4 : Int32) (p5 : Int32) : Option (Int32 × AH) := if kd h0 p0 = 12 + 1 then (f_X11_isTerm h0 p0 p1).bind fun v1 => (if v1 = 0 then some ((-1), h0) else (f_X11_isGauge h0 p0 p2).bind fun v3 => (if v3 = 0 then some ((-1), h0) else (f_X11_isSeason h0 p3).bind fun v5 => (if v5 = 0 then some ((-1), h0) else (f_X11_within h0 p4 0 5).bind fun v7 => (if v7 = 0 then some ((-2), h0) else (f_X11_within h0 p5 0 3).bind fun v9 => (if v9 = 0 then some ((-2), h0) else (f_X11_now h0 p0).bind fun v11 => (f_X11_payOn h0 N p0 p1 p2 p3 p4 p5 v11).bind fun q12 => some (q12.1, q12.2)))))) else none
theorem g_X11_pay {h0 : AH} {N : Nat} {p0 : Nat} {p1 : Int32} {p2 : Int32} {p3 : Int32} {p4 : Int32} {p5 : Int32} {x : (Int32 × AH)} (e : f_X11_pay h0 N p0 p1 p2 p3 p4 p5 = some x) : kd h0 p0 = 12 + 1 := by
  unfold f_X11_pay at e
  by_cases hk : kd h0 p0 = 12 + 1
  · exact hk
  · rw [if_neg hk] at e
    cases e
theorem km_X11_pay : KM yX11_pay M_X11_pay 5 := ⟨in_tb 595 (by decide +kernel) rfl, in_tb 1 (by decide +kernel) rfl, by decide +kernel, rfl, rfl⟩
theorem hm_X11_pay : M_X11_pay.2.2.2.2.2.1 = 0 ∧ M_X11_pay.2.2.2.2.2.2.1 = 0 := ⟨rfl, rfl⟩
section
variable {l : Launch} {g : GG}
end
set_option maxRecDepth 100000 in
set_option maxHeartbeats 4000000 in
theorem c_X11_pay (l : Launch) (g : GG) (h0 : AH) (N : Nat) (p0 : Nat) (p1 : Int32) (p2 : Int32) (p3 : Int32) (p4 : Int32) (p5 : Int32) : CN l g yX11_pay M_X11_pay false [.ref p0, .int p1, .int p2, .int p3, .int p4, .int p5] h0 rSi (f_X11_pay h0 N p0 p1 p2 p3 p4 p5) := by
  refine CN.of (by decide) rfl (fun hh => by first | rfl | cases hh) (Nat.le_of_ble_eq_true rfl) ?_
  unfold f_X11_pay
  refine a_gd (fun hkd => ?_)
  refine a_aload_n dX11_pay_0 rfl 0 rfl ?_
  refine a_iload_n dX11_pay_1 rfl 1 rfl ?_
  refine a_cV_Pi (r := p0) (ci := 12) (as := [.int p1]) (st := []) dX11_pay_2 (c_X11_isTerm l g h0 p0 p1) rfl km_X11_isTerm (hm_X11_isTerm) rfl (by decide) rfl (fun _ ee => g_X11_isTerm ee) w_methodLink_RainCover_219 w_instanceMethod_RainCover_isTerm__I_Z w_selects_RainCover_RainCover_isTerm__I_Z_RainCover_isTerm__I_Z ⟨⟨by decide, by decide⟩, ⟨by decide, by decide⟩⟩ (Nat.le_of_ble_eq_true rfl) (fun v1 => ?_)
  refine a_if_eq 23 dX11_pay_5 (by decide) (fun c2 => ?_) (fun c2 => ?_)
  · refine a_iconst (v := (-1)) dX11_pay_23 (by decide) ?_
    exact a_iret dX11_pay_24 rfl rfl (by decide) (by decide)
  · refine a_aload_n dX11_pay_8 rfl 0 rfl ?_
    refine a_iload_n dX11_pay_9 rfl 2 rfl ?_
    refine a_cV_Pi (r := p0) (ci := 12) (as := [.int p2]) (st := []) dX11_pay_10 (c_X11_isGauge l g h0 p0 p2) rfl km_X11_isGauge (hm_X11_isGauge) rfl (by decide) rfl (fun _ ee => g_X11_isGauge ee) w_methodLink_RainCover_117 w_instanceMethod_RainCover_isGauge__I_Z w_selects_RainCover_RainCover_isGauge__I_Z_RainCover_isGauge__I_Z ⟨⟨by decide, by decide⟩, ⟨by decide, by decide⟩⟩ (Nat.le_of_ble_eq_true rfl) (fun v3 => ?_)
    refine a_if_eq 23 dX11_pay_13 (by decide) (fun c4 => ?_) (fun c4 => ?_)
    · refine a_iconst (v := (-1)) dX11_pay_23 (by decide) ?_
      exact a_iret dX11_pay_24 rfl rfl (by decide) (by decide)
    · refine a_iload_n dX11_pay_16 rfl 3 rfl ?_
      refine a_cS_Pi (as := [.int p3]) (st := []) dX11_pay_17 (c_X11_isSeason l g h0 p3) rfl km_X11_isSeason (hm_X11_isSeason) w_methodLink_RainCover_100 w_static_RainCover_isSeason__I_Z ⟨⟨by decide, by decide⟩, ⟨by decide, by decide⟩⟩ (Nat.le_of_ble_eq_true rfl) (fun v5 => ?_)
      refine a_if_ne 25 dX11_pay_20 (by decide) (fun c6 => ?_) (fun c6 => ?_)
      · refine a_iconst (v := (-1)) dX11_pay_23 (by decide) ?_
        exact a_iret dX11_pay_24 rfl rfl (by decide) (by decide)
      · refine a_iload dX11_pay_25 4 rfl ?_
        refine a_iconst (v := 0) dX11_pay_27 (by decide) ?_
        refine a_iconst (v := 5) dX11_pay_28 (by decide) ?_
        refine a_cS_Pi (as := [.int p4, .int 0, .int 5]) (st := []) dX11_pay_29 (c_X11_within l g h0 p4 0 5) rfl km_X11_within (hm_X11_within) w_methodLink_RainCover_120 w_static_RainCover_within__III_Z ⟨⟨by decide, by decide⟩, ⟨by decide, by decide⟩⟩ (Nat.le_of_ble_eq_true rfl) (fun v7 => ?_)
        refine a_if_eq 45 dX11_pay_32 (by decide) (fun c8 => ?_) (fun c8 => ?_)
        · refine a_bipush (v := (-2)) dX11_pay_45 (by decide) ?_
          exact a_iret dX11_pay_47 rfl rfl (by decide) (by decide)
        · refine a_iload dX11_pay_35 5 rfl ?_
          refine a_iconst (v := 0) dX11_pay_37 (by decide) ?_
          refine a_iconst (v := 3) dX11_pay_38 (by decide) ?_
          refine a_cS_Pi (as := [.int p5, .int 0, .int 3]) (st := []) dX11_pay_39 (c_X11_within l g h0 p5 0 3) rfl km_X11_within (hm_X11_within) w_methodLink_RainCover_120 w_static_RainCover_within__III_Z ⟨⟨by decide, by decide⟩, ⟨by decide, by decide⟩⟩ (Nat.le_of_ble_eq_true rfl) (fun v9 => ?_)
          refine a_if_ne 48 dX11_pay_42 (by decide) (fun c10 => ?_) (fun c10 => ?_)
          · refine a_bipush (v := (-2)) dX11_pay_45 (by decide) ?_
            exact a_iret dX11_pay_47 rfl rfl (by decide) (by decide)
          · refine a_aload_n dX11_pay_48 rfl 0 rfl ?_
            refine a_iload_n dX11_pay_49 rfl 1 rfl ?_
            refine a_iload_n dX11_pay_50 rfl 2 rfl ?_
            refine a_iload_n dX11_pay_51 rfl 3 rfl ?_
            refine a_iload dX11_pay_52 4 rfl ?_
            refine a_iload dX11_pay_54 5 rfl ?_
            refine a_aload_n dX11_pay_56 rfl 0 rfl ?_
            refine a_cV_Pi (r := p0) (ci := 12) (as := []) (st := [.int p5, .int p4, .int p3, .int p2, .int p1, .ref p0]) dX11_pay_57 (c_X11_now l g h0 p0) rfl km_X11_now (hm_X11_now) rfl (by decide) rfl (fun _ ee => g_X11_now ee) w_methodLink_RainCover_179 w_instanceMethod_RainCover_now___I w_selects_RainCover_RainCover_now___I_RainCover_now___I ⟨⟨by decide, by decide⟩, ⟨by decide, by decide⟩⟩ (Nat.le_of_ble_eq_true rfl) (fun v11 => ?_)
            refine a_cV_Si (r := p0) (ci := 12) (as := [.int p1, .int p2, .int p3, .int p4, .int p5, .int v11]) (st := []) dX11_pay_60 (c_X11_payOn l g h0 N p0 p1 p2 p3 p4 p5 v11) rfl km_X11_payOn (hm_X11_payOn) rfl (by decide) rfl (fun _ ee => g_X11_payOn ee) w_methodLink_RainCover_222 w_instanceMethod_RainCover_payOn__IIIIII_I w_selects_RainCover_RainCover_payOn__IIIIII_I_RainCover_payOn__IIIIII_I ⟨⟨by decide, by decide⟩, ⟨by decide, by decide⟩⟩ (Nat.le_of_ble_eq_true rfl) (fun q12 => ?_)
            exact a_iret dX11_pay_63 rfl rfl (by decide) (by decide)
theorem dX1_init_0 : decode cX1_init 0 = .ok (.aload_n 0, 1) := by decide +kernel
theorem dX1_init_1 : decode cX1_init 1 = .ok (.invokespecial 1, 3) := by decide +kernel
theorem dX1_init_4 : decode cX1_init 4 = .ok (.aload_n 0, 1) := by decide +kernel
theorem dX1_init_5 : decode cX1_init 5 = .ok (.bipush 20, 2) := by decide +kernel
theorem dX1_init_7 : decode cX1_init 7 = .ok (.newarray .int, 2) := by decide +kernel
theorem dX1_init_9 : decode cX1_init 9 = .ok (.putfield 9, 3) := by decide +kernel
theorem dX1_init_12 : decode cX1_init 12 = .ok (.aload_n 0, 1) := by decide +kernel
theorem dX1_init_13 : decode cX1_init 13 = .ok (.iconst 0, 1) := by decide +kernel
theorem dX1_init_14 : decode cX1_init 14 = .ok (.putfield 13, 3) := by decide +kernel
theorem dX1_init_17 : decode cX1_init 17 = .ok (.aload_n 0, 1) := by decide +kernel
theorem dX1_init_18 : decode cX1_init 18 = .ok (.iload_n 1, 1) := by decide +kernel
theorem dX1_init_19 : decode cX1_init 19 = .ok (.putfield 17, 3) := by decide +kernel
theorem dX1_init_22 : decode cX1_init 22 = .ok (.aload_n 0, 1) := by decide +kernel
theorem dX1_init_23 : decode cX1_init 23 = .ok (.iload_n 2, 1) := by decide +kernel
theorem dX1_init_24 : decode cX1_init 24 = .ok (.putfield 20, 3) := by decide +kernel
theorem dX1_init_27 : decode cX1_init 27 = .ok (.return_, 1) := by decide +kernel
abbrev M_X1_init : MI := (RX1, cX1_init, 3, none, ({ frames := 1, cells := 1, slots := 20, locals := 20 } : Room), 1, 20, true)
def f_X1_init (h0 : AH) (p0 : Nat) (p1 : Int32) (p2 : Int32) : Option AH := if kd h0 p0 = 2 ∨ kd h0 p0 = 3 ∨ kd h0 p0 = 6 ∨ kd h0 p0 = 7 then (gl h0 [p0, p0]).bind fun _ => (xna h0 (p0 + 30) 0 20).bind fun h1 => (xpcr h1 p0 2 (p0 + 30)).bind fun h2 => (xpc h2 p0 3 0).bind fun h3 => (xpc h3 p0 0 p1).bind fun h4 => (xpc h4 p0 1 p2).bind fun h5 => some h5 else none
theorem g_X1_init {h0 : AH} {p0 : Nat} {p1 : Int32} {p2 : Int32} {x : AH} (e : f_X1_init h0 p0 p1 p2 = some x) : kd h0 p0 = 2 ∨ kd h0 p0 = 3 ∨ kd h0 p0 = 6 ∨ kd h0 p0 = 7 := by
  unfold f_X1_init at e
  by_cases hk : kd h0 p0 = 2 ∨ kd h0 p0 = 3 ∨ kd h0 p0 = 6 ∨ kd h0 p0 = 7
  · exact hk
  · rw [if_neg hk] at e
    cases e
theorem km_X1_init : KM yX1_init M_X1_init 2 := ⟨in_tb 645 (by decide +kernel) rfl, in_tb 22 (by decide +kernel) rfl, by decide +kernel, rfl, rfl⟩
section
variable {l : Launch} {g : GG}
end
set_option maxRecDepth 100000 in
set_option maxHeartbeats 4000000 in
theorem c_X1_init (l : Launch) (g : GG) (h0 : AH) (p0 : Nat) (p1 : Int32) (p2 : Int32) : CN l g yX1_init M_X1_init true [.ref p0, .int p1, .int p2] h0 rSv (f_X1_init h0 p0 p1 p2) := by
  refine CN.of (by decide) rfl (fun hh => by first | rfl | cases hh) (Nat.le_of_ble_eq_true rfl) ?_
  unfold f_X1_init
  refine a_gd (fun hkd => ?_)
  refine a_aload_n dX1_init_0 rfl 0 rfl ?_
  refine a_objI dX1_init_1 w_methodLink_RainCover_Crop_1 w_instanceMethod_java_lang_Object__init____V w_code_java_lang_Object__init____V (by decide) (by decide) (Nat.le_of_ble_eq_true rfl) ?_
  refine a_aload_n dX1_init_4 rfl 0 rfl ?_
  refine a_bipush (v := 20) dX1_init_5 (by decide) ?_
  refine a_newa_int (r := (p0 + 30)) [p0, p0] rfl dX1_init_7 w_arrayClass_int (by decide) (by decide) (fun h1 => ?_)
  refine a_widen 1 20 (by decide) (by decide) ?_
  refine a_pc2F dX1_init_9 w_fieldLink_RainCover_Crop_9 rfl rfl (fun h2 => ?_)
  refine a_aload_n dX1_init_12 rfl 0 rfl ?_
  refine a_iconst (v := 0) dX1_init_13 (by decide) ?_
  refine a_pc3 dX1_init_14 w_fieldLink_RainCover_Crop_13 (fun h3 => ?_)
  refine a_aload_n dX1_init_17 rfl 0 rfl ?_
  refine a_iload_n dX1_init_18 rfl 1 rfl ?_
  refine a_pc0F dX1_init_19 w_fieldLink_RainCover_Crop_17 rfl rfl (fun h4 => ?_)
  refine a_aload_n dX1_init_22 rfl 0 rfl ?_
  refine a_iload_n dX1_init_23 rfl 2 rfl ?_
  refine a_pc1F dX1_init_24 w_fieldLink_RainCover_Crop_20 rfl rfl (fun h5 => ?_)
  exact a_vret dX1_init_27 rfl rfl (by decide) (by decide)
theorem dX4_init_0 : decode cX4_init 0 = .ok (.aload_n 0, 1) := by decide +kernel
theorem dX4_init_1 : decode cX4_init 1 = .ok (.iload_n 1, 1) := by decide +kernel
theorem dX4_init_2 : decode cX4_init 2 = .ok (.iload_n 2, 1) := by decide +kernel
theorem dX4_init_3 : decode cX4_init 3 = .ok (.invokespecial 1, 3) := by decide +kernel
theorem dX4_init_6 : decode cX4_init 6 = .ok (.return_, 1) := by decide +kernel
abbrev M_X4_init : MI := (RX4, cX4_init, 3, none, ({ frames := 2, cells := 1, slots := 20, locals := 42 } : Room), 1, 20, true)
def f_X4_init (h0 : AH) (p0 : Nat) (p1 : Int32) (p2 : Int32) : Option AH := if kd h0 p0 = 6 ∨ kd h0 p0 = 7 then (gl h0 [p0]).bind fun _ => (f_X1_init h0 p0 p1 p2).bind fun q1 => some q1 else none
theorem g_X4_init {h0 : AH} {p0 : Nat} {p1 : Int32} {p2 : Int32} {x : AH} (e : f_X4_init h0 p0 p1 p2 = some x) : kd h0 p0 = 6 ∨ kd h0 p0 = 7 := by
  unfold f_X4_init at e
  by_cases hk : kd h0 p0 = 6 ∨ kd h0 p0 = 7
  · exact hk
  · rw [if_neg hk] at e
    cases e
theorem km_X4_init : KM yX4_init M_X4_init 2 := ⟨in_tb 642 (by decide +kernel) rfl, in_tb 23 (by decide +kernel) rfl, by decide +kernel, rfl, rfl⟩
section
variable {l : Launch} {g : GG}
end
set_option maxRecDepth 100000 in
set_option maxHeartbeats 4000000 in
theorem c_X4_init (l : Launch) (g : GG) (h0 : AH) (p0 : Nat) (p1 : Int32) (p2 : Int32) : CN l g yX4_init M_X4_init true [.ref p0, .int p1, .int p2] h0 rSv (f_X4_init h0 p0 p1 p2) := by
  refine CN.of (by decide) rfl (fun hh => by first | rfl | cases hh) (Nat.le_of_ble_eq_true rfl) ?_
  unfold f_X4_init
  refine a_gd (fun hkd => ?_)
  refine a_aload_n dX4_init_0 rfl 0 rfl ?_
  refine a_iload_n dX4_init_1 rfl 1 rfl ?_
  refine a_iload_n dX4_init_2 rfl 2 rfl ?_
  refine a_xI_Sv (r := p0) (as := [.int p1, .int p2]) (st := []) dX4_init_3 [p0] rfl (c_X1_init l g h0 p0 p1 p2) rfl km_X1_init rfl rfl w_methodLink_RainCover_Grain_1 w_instanceMethod_RainCover_Crop__init___II_V ⟨⟨by decide, by decide⟩, ⟨by decide, by decide⟩⟩ (Nat.le_of_ble_eq_true rfl) (fun q1 => ?_)
  refine a_widen 1 20 (by decide) (by decide) ?_
  exact a_vret dX4_init_6 rfl rfl (by decide) (by decide)
theorem dX5_init_0 : decode cX5_init 0 = .ok (.aload_n 0, 1) := by decide +kernel
theorem dX5_init_1 : decode cX5_init 1 = .ok (.iload_n 1, 1) := by decide +kernel
theorem dX5_init_2 : decode cX5_init 2 = .ok (.iload_n 2, 1) := by decide +kernel
theorem dX5_init_3 : decode cX5_init 3 = .ok (.invokespecial 1, 3) := by decide +kernel
theorem dX5_init_6 : decode cX5_init 6 = .ok (.return_, 1) := by decide +kernel
abbrev M_X5_init : MI := (RX5, cX5_init, 3, none, ({ frames := 3, cells := 1, slots := 20, locals := 64 } : Room), 1, 20, true)
def f_X5_init (h0 : AH) (p0 : Nat) (p1 : Int32) (p2 : Int32) : Option AH := if kd h0 p0 = 6 + 1 then (gl h0 [p0]).bind fun _ => (f_X4_init h0 p0 p1 p2).bind fun q1 => some q1 else none
theorem g_X5_init {h0 : AH} {p0 : Nat} {p1 : Int32} {p2 : Int32} {x : AH} (e : f_X5_init h0 p0 p1 p2 = some x) : kd h0 p0 = 6 + 1 := by
  unfold f_X5_init at e
  by_cases hk : kd h0 p0 = 6 + 1
  · exact hk
  · rw [if_neg hk] at e
    cases e
theorem km_X5_init : KM yX5_init M_X5_init 2 := ⟨in_tb 668 (by decide +kernel) rfl, in_tb 24 (by decide +kernel) rfl, by decide +kernel, rfl, rfl⟩
section
variable {l : Launch} {g : GG}
end
set_option maxRecDepth 100000 in
set_option maxHeartbeats 4000000 in
theorem c_X5_init (l : Launch) (g : GG) (h0 : AH) (p0 : Nat) (p1 : Int32) (p2 : Int32) : CN l g yX5_init M_X5_init true [.ref p0, .int p1, .int p2] h0 rSv (f_X5_init h0 p0 p1 p2) := by
  refine CN.of (by decide) rfl (fun hh => by first | rfl | cases hh) (Nat.le_of_ble_eq_true rfl) ?_
  unfold f_X5_init
  refine a_gd (fun hkd => ?_)
  refine a_aload_n dX5_init_0 rfl 0 rfl ?_
  refine a_iload_n dX5_init_1 rfl 1 rfl ?_
  refine a_iload_n dX5_init_2 rfl 2 rfl ?_
  refine a_xI_Sv (r := p0) (as := [.int p1, .int p2]) (st := []) dX5_init_3 [p0] rfl (c_X4_init l g h0 p0 p1 p2) rfl km_X4_init rfl rfl w_methodLink_RainCover_Maize_1 w_instanceMethod_RainCover_Grain__init___II_V ⟨⟨by decide, by decide⟩, ⟨by decide, by decide⟩⟩ (Nat.le_of_ble_eq_true rfl) (fun q1 => ?_)
  refine a_widen 1 20 (by decide) (by decide) ?_
  exact a_vret dX5_init_6 rfl rfl (by decide) (by decide)
theorem dX0_init_0 : decode cX0_init 0 = .ok (.aload_n 0, 1) := by decide +kernel
theorem dX0_init_1 : decode cX0_init 1 = .ok (.iload_n 1, 1) := by decide +kernel
theorem dX0_init_2 : decode cX0_init 2 = .ok (.iload_n 2, 1) := by decide +kernel
theorem dX0_init_3 : decode cX0_init 3 = .ok (.invokespecial 1, 3) := by decide +kernel
theorem dX0_init_6 : decode cX0_init 6 = .ok (.return_, 1) := by decide +kernel
abbrev M_X0_init : MI := (RX0, cX0_init, 3, none, ({ frames := 2, cells := 1, slots := 20, locals := 42 } : Room), 1, 20, true)
def f_X0_init (h0 : AH) (p0 : Nat) (p1 : Int32) (p2 : Int32) : Option AH := if kd h0 p0 = 1 + 1 then (gl h0 [p0]).bind fun _ => (f_X1_init h0 p0 p1 p2).bind fun q1 => some q1 else none
theorem g_X0_init {h0 : AH} {p0 : Nat} {p1 : Int32} {p2 : Int32} {x : AH} (e : f_X0_init h0 p0 p1 p2 = some x) : kd h0 p0 = 1 + 1 := by
  unfold f_X0_init at e
  by_cases hk : kd h0 p0 = 1 + 1
  · exact hk
  · rw [if_neg hk] at e
    cases e
theorem km_X0_init : KM yX0_init M_X0_init 2 := ⟨in_tb 679 (by decide +kernel) rfl, in_tb 25 (by decide +kernel) rfl, by decide +kernel, rfl, rfl⟩
section
variable {l : Launch} {g : GG}
end
set_option maxRecDepth 100000 in
set_option maxHeartbeats 4000000 in
theorem c_X0_init (l : Launch) (g : GG) (h0 : AH) (p0 : Nat) (p1 : Int32) (p2 : Int32) : CN l g yX0_init M_X0_init true [.ref p0, .int p1, .int p2] h0 rSv (f_X0_init h0 p0 p1 p2) := by
  refine CN.of (by decide) rfl (fun hh => by first | rfl | cases hh) (Nat.le_of_ble_eq_true rfl) ?_
  unfold f_X0_init
  refine a_gd (fun hkd => ?_)
  refine a_aload_n dX0_init_0 rfl 0 rfl ?_
  refine a_iload_n dX0_init_1 rfl 1 rfl ?_
  refine a_iload_n dX0_init_2 rfl 2 rfl ?_
  refine a_xI_Sv (r := p0) (as := [.int p1, .int p2]) (st := []) dX0_init_3 [p0] rfl (c_X1_init l g h0 p0 p1 p2) rfl km_X1_init rfl rfl w_methodLink_RainCover_Bean_1 w_instanceMethod_RainCover_Crop__init___II_V ⟨⟨by decide, by decide⟩, ⟨by decide, by decide⟩⟩ (Nat.le_of_ble_eq_true rfl) (fun q1 => ?_)
  refine a_widen 1 20 (by decide) (by decide) ?_
  exact a_vret dX0_init_6 rfl rfl (by decide) (by decide)
theorem dX11_newCrop_0 : decode cX11_newCrop 0 = .ok (.iload_n 0, 1) := by decide +kernel
theorem dX11_newCrop_1 : decode cX11_newCrop 1 = .ok (.tableswitch 57 1 3 #[27, 37, 47], 27) := by decide +kernel
theorem dX11_newCrop_28 : decode cX11_newCrop 28 = .ok (.new 242, 3) := by decide +kernel
theorem dX11_newCrop_31 : decode cX11_newCrop 31 = .ok (.dup, 1) := by decide +kernel
theorem dX11_newCrop_32 : decode cX11_newCrop 32 = .ok (.iload_n 1, 1) := by decide +kernel
theorem dX11_newCrop_33 : decode cX11_newCrop 33 = .ok (.iload_n 2, 1) := by decide +kernel
theorem dX11_newCrop_34 : decode cX11_newCrop 34 = .ok (.invokespecial 244, 3) := by decide +kernel
theorem dX11_newCrop_37 : decode cX11_newCrop 37 = .ok (.areturn, 1) := by decide +kernel
theorem dX11_newCrop_38 : decode cX11_newCrop 38 = .ok (.new 245, 3) := by decide +kernel
theorem dX11_newCrop_41 : decode cX11_newCrop 41 = .ok (.dup, 1) := by decide +kernel
theorem dX11_newCrop_42 : decode cX11_newCrop 42 = .ok (.iload_n 1, 1) := by decide +kernel
theorem dX11_newCrop_43 : decode cX11_newCrop 43 = .ok (.iload_n 2, 1) := by decide +kernel
theorem dX11_newCrop_44 : decode cX11_newCrop 44 = .ok (.invokespecial 247, 3) := by decide +kernel
theorem dX11_newCrop_47 : decode cX11_newCrop 47 = .ok (.areturn, 1) := by decide +kernel
theorem dX11_newCrop_48 : decode cX11_newCrop 48 = .ok (.new 248, 3) := by decide +kernel
theorem dX11_newCrop_51 : decode cX11_newCrop 51 = .ok (.dup, 1) := by decide +kernel
theorem dX11_newCrop_52 : decode cX11_newCrop 52 = .ok (.iload_n 1, 1) := by decide +kernel
theorem dX11_newCrop_53 : decode cX11_newCrop 53 = .ok (.iload_n 2, 1) := by decide +kernel
theorem dX11_newCrop_54 : decode cX11_newCrop 54 = .ok (.invokespecial 250, 3) := by decide +kernel
theorem dX11_newCrop_57 : decode cX11_newCrop 57 = .ok (.areturn, 1) := by decide +kernel
theorem dX11_newCrop_58 : decode cX11_newCrop 58 = .ok (.new 251, 3) := by decide +kernel
theorem dX11_newCrop_61 : decode cX11_newCrop 61 = .ok (.dup, 1) := by decide +kernel
theorem dX11_newCrop_62 : decode cX11_newCrop 62 = .ok (.iload_n 1, 1) := by decide +kernel
theorem dX11_newCrop_63 : decode cX11_newCrop 63 = .ok (.iload_n 2, 1) := by decide +kernel
theorem dX11_newCrop_64 : decode cX11_newCrop 64 = .ok (.invokespecial 253, 3) := by decide +kernel
theorem dX11_newCrop_67 : decode cX11_newCrop 67 = .ok (.areturn, 1) := by decide +kernel
abbrev M_X11_newCrop : MI := (RX11, cX11_newCrop, 3, (some (.object "RainCover$Crop")), ({ frames := 4, cells := 2, slots := 24, locals := 86 } : Room), 2, 24, false)
def f_X11_newCrop (h0 : AH) (p0 : Int32) (p1 : Int32) (p2 : Int32) : Option (Nat × AH) := (if p0 = 1 then (gl h0 []).bind fun _ => (xnw h0 (360 + (p1 : Int32).toNatClampNeg) 5).bind fun h2 => (gl h2 [(360 + (p1 : Int32).toNatClampNeg)]).bind fun _ => (f_X4_init h2 (360 + (p1 : Int32).toNatClampNeg) p1 p2).bind fun q3 => some ((360 + (p1 : Int32).toNatClampNeg), q3) else (if p0 = 2 then (gl h0 []).bind fun _ => (xnw h0 (360 + (p1 : Int32).toNatClampNeg) 6).bind fun h5 => (gl h5 [(360 + (p1 : Int32).toNatClampNeg)]).bind fun _ => (f_X5_init h5 (360 + (p1 : Int32).toNatClampNeg) p1 p2).bind fun q6 => some ((360 + (p1 : Int32).toNatClampNeg), q6) else (if p0 = 3 then (gl h0 []).bind fun _ => (xnw h0 (360 + (p1 : Int32).toNatClampNeg) 1).bind fun h8 => (gl h8 [(360 + (p1 : Int32).toNatClampNeg)]).bind fun _ => (f_X0_init h8 (360 + (p1 : Int32).toNatClampNeg) p1 p2).bind fun q9 => some ((360 + (p1 : Int32).toNatClampNeg), q9) else (gl h0 []).bind fun _ => (xnw h0 (360 + (p1 : Int32).toNatClampNeg) 2).bind fun h10 => (gl h10 [(360 + (p1 : Int32).toNatClampNeg)]).bind fun _ => (f_X1_init h10 (360 + (p1 : Int32).toNatClampNeg) p1 p2).bind fun q11 => some ((360 + (p1 : Int32).toNatClampNeg), q11))))
theorem km_X11_newCrop : KM yX11_newCrop M_X11_newCrop 3 := ⟨in_tb 637 (by decide +kernel) rfl, in_tb 1 (by decide +kernel) rfl, by decide +kernel, rfl, rfl⟩
section
variable {l : Launch} {g : GG}
end
set_option maxRecDepth 100000 in
set_option maxHeartbeats 4000000 in
theorem c_X11_newCrop (l : Launch) (g : GG) (h0 : AH) (p0 : Int32) (p1 : Int32) (p2 : Int32) : CN l g yX11_newCrop M_X11_newCrop true [.int p0, .int p1, .int p2] h0 rSr (f_X11_newCrop h0 p0 p1 p2) := by
  refine CN.of (by decide) rfl (fun hh => by first | rfl | cases hh) (Nat.le_of_ble_eq_true rfl) ?_
  unfold f_X11_newCrop
  refine a_iload_n dX11_newCrop_0 rfl 0 rfl ?_
  refine a_swt (v := 1) 28 dX11_newCrop_1 (by decide) (by decide) (fun c1 => ?_) (fun c1 => ?_)
  · refine a_new (r := (360 + (p1 : Int32).toNatClampNeg)) kc5 [] rfl dX11_newCrop_28 (by decide +kernel) w_classLink_RainCover_242 w_instantiable_RainCover_Grain w_initialized_RainCover_Grain (by decide) (by decide) (fun h2 => ?_)
    refine a_widen 1 4 (by decide) (by decide) ?_
    refine a_dup dX11_newCrop_31 rfl ?_
    refine a_iload_n dX11_newCrop_32 rfl 1 rfl ?_
    refine a_iload_n dX11_newCrop_33 rfl 2 rfl ?_
    refine a_xI_Sv (r := (360 + (p1 : Int32).toNatClampNeg)) (as := [.int p1, .int p2]) (st := [.ref (360 + (p1 : Int32).toNatClampNeg)]) dX11_newCrop_34 [(360 + (p1 : Int32).toNatClampNeg)] rfl (c_X4_init l g h2 (360 + (p1 : Int32).toNatClampNeg) p1 p2) rfl km_X4_init rfl rfl w_methodLink_RainCover_244 w_instanceMethod_RainCover_Grain__init___II_V ⟨⟨by decide, by decide⟩, ⟨by decide, by decide⟩⟩ (Nat.le_of_ble_eq_true rfl) (fun q3 => ?_)
    refine a_widen 2 24 (by decide) (by decide) ?_
    exact a_aret dX11_newCrop_37 rfl (Or.inl ⟨_, rfl⟩) rfl (by decide) (by decide)
  refine a_swt (v := 2) 38 dX11_newCrop_1 (by decide) (by decide) (fun c4 => ?_) (fun c4 => ?_)
  · refine a_new (r := (360 + (p1 : Int32).toNatClampNeg)) kc6 [] rfl dX11_newCrop_38 (by decide +kernel) w_classLink_RainCover_245 w_instantiable_RainCover_Maize w_initialized_RainCover_Maize (by decide) (by decide) (fun h5 => ?_)
    refine a_widen 1 4 (by decide) (by decide) ?_
    refine a_dup dX11_newCrop_41 rfl ?_
    refine a_iload_n dX11_newCrop_42 rfl 1 rfl ?_
    refine a_iload_n dX11_newCrop_43 rfl 2 rfl ?_
    refine a_xI_Sv (r := (360 + (p1 : Int32).toNatClampNeg)) (as := [.int p1, .int p2]) (st := [.ref (360 + (p1 : Int32).toNatClampNeg)]) dX11_newCrop_44 [(360 + (p1 : Int32).toNatClampNeg)] rfl (c_X5_init l g h5 (360 + (p1 : Int32).toNatClampNeg) p1 p2) rfl km_X5_init rfl rfl w_methodLink_RainCover_247 w_instanceMethod_RainCover_Maize__init___II_V ⟨⟨by decide, by decide⟩, ⟨by decide, by decide⟩⟩ (Nat.le_of_ble_eq_true rfl) (fun q6 => ?_)
    refine a_widen 2 24 (by decide) (by decide) ?_
    exact a_aret dX11_newCrop_47 rfl (Or.inl ⟨_, rfl⟩) rfl (by decide) (by decide)
  refine a_swt (v := 3) 48 dX11_newCrop_1 (by decide) (by decide) (fun c7 => ?_) (fun c7 => ?_)
  · refine a_new (r := (360 + (p1 : Int32).toNatClampNeg)) kc1 [] rfl dX11_newCrop_48 (by decide +kernel) w_classLink_RainCover_248 w_instantiable_RainCover_Bean w_initialized_RainCover_Bean (by decide) (by decide) (fun h8 => ?_)
    refine a_widen 1 4 (by decide) (by decide) ?_
    refine a_dup dX11_newCrop_51 rfl ?_
    refine a_iload_n dX11_newCrop_52 rfl 1 rfl ?_
    refine a_iload_n dX11_newCrop_53 rfl 2 rfl ?_
    refine a_xI_Sv (r := (360 + (p1 : Int32).toNatClampNeg)) (as := [.int p1, .int p2]) (st := [.ref (360 + (p1 : Int32).toNatClampNeg)]) dX11_newCrop_54 [(360 + (p1 : Int32).toNatClampNeg)] rfl (c_X0_init l g h8 (360 + (p1 : Int32).toNatClampNeg) p1 p2) rfl km_X0_init rfl rfl w_methodLink_RainCover_250 w_instanceMethod_RainCover_Bean__init___II_V ⟨⟨by decide, by decide⟩, ⟨by decide, by decide⟩⟩ (Nat.le_of_ble_eq_true rfl) (fun q9 => ?_)
    refine a_widen 2 24 (by decide) (by decide) ?_
    exact a_aret dX11_newCrop_57 rfl (Or.inl ⟨_, rfl⟩) rfl (by decide) (by decide)
  refine a_swtd (vs := [1, 2, 3]) 58 dX11_newCrop_1 (by decide) (by decide) (List.forall_mem_cons.mpr ⟨c1, List.forall_mem_cons.mpr ⟨c4, List.forall_mem_cons.mpr ⟨c7, fun _ hh => absurd hh List.not_mem_nil⟩⟩⟩) ?_
  refine a_new (r := (360 + (p1 : Int32).toNatClampNeg)) kc2 [] rfl dX11_newCrop_58 (by decide +kernel) w_classLink_RainCover_251 w_instantiable_RainCover_Crop w_initialized_RainCover_Crop (by decide) (by decide) (fun h10 => ?_)
  refine a_widen 1 4 (by decide) (by decide) ?_
  refine a_dup dX11_newCrop_61 rfl ?_
  refine a_iload_n dX11_newCrop_62 rfl 1 rfl ?_
  refine a_iload_n dX11_newCrop_63 rfl 2 rfl ?_
  refine a_xI_Sv (r := (360 + (p1 : Int32).toNatClampNeg)) (as := [.int p1, .int p2]) (st := [.ref (360 + (p1 : Int32).toNatClampNeg)]) dX11_newCrop_64 [(360 + (p1 : Int32).toNatClampNeg)] rfl (c_X1_init l g h10 (360 + (p1 : Int32).toNatClampNeg) p1 p2) rfl km_X1_init rfl rfl w_methodLink_RainCover_253 w_instanceMethod_RainCover_Crop__init___II_V ⟨⟨by decide, by decide⟩, ⟨by decide, by decide⟩⟩ (Nat.le_of_ble_eq_true rfl) (fun q11 => ?_)
  refine a_widen 2 24 (by decide) (by decide) ?_
  exact a_aret dX11_newCrop_67 rfl (Or.inl ⟨_, rfl⟩) rfl (by decide) (by decide)
theorem dX2_init_0 : decode cX2_init 0 = .ok (.aload_n 0, 1) := by decide +kernel
theorem dX2_init_1 : decode cX2_init 1 = .ok (.invokespecial 3, 3) := by decide +kernel
theorem dX2_init_4 : decode cX2_init 4 = .ok (.aload_n 0, 1) := by decide +kernel
theorem dX2_init_5 : decode cX2_init 5 = .ok (.bipush 16, 2) := by decide +kernel
theorem dX2_init_7 : decode cX2_init 7 = .ok (.newarray .int, 2) := by decide +kernel
theorem dX2_init_9 : decode cX2_init 9 = .ok (.putfield 9, 3) := by decide +kernel
theorem dX2_init_12 : decode cX2_init 12 = .ok (.aload_n 0, 1) := by decide +kernel
theorem dX2_init_13 : decode cX2_init 13 = .ok (.iconst 0, 1) := by decide +kernel
theorem dX2_init_14 : decode cX2_init 14 = .ok (.putfield 15, 3) := by decide +kernel
theorem dX2_init_17 : decode cX2_init 17 = .ok (.aload_n 0, 1) := by decide +kernel
theorem dX2_init_18 : decode cX2_init 18 = .ok (.iconst (-1), 1) := by decide +kernel
theorem dX2_init_19 : decode cX2_init 19 = .ok (.putfield 19, 3) := by decide +kernel
theorem dX2_init_22 : decode cX2_init 22 = .ok (.aload_n 0, 1) := by decide +kernel
theorem dX2_init_23 : decode cX2_init 23 = .ok (.iconst 0, 1) := by decide +kernel
theorem dX2_init_24 : decode cX2_init 24 = .ok (.putfield 22, 3) := by decide +kernel
theorem dX2_init_27 : decode cX2_init 27 = .ok (.aload_n 0, 1) := by decide +kernel
theorem dX2_init_28 : decode cX2_init 28 = .ok (.iload_n 1, 1) := by decide +kernel
theorem dX2_init_29 : decode cX2_init 29 = .ok (.putfield 25, 3) := by decide +kernel
theorem dX2_init_32 : decode cX2_init 32 = .ok (.aload_n 0, 1) := by decide +kernel
theorem dX2_init_33 : decode cX2_init 33 = .ok (.iload_n 2, 1) := by decide +kernel
theorem dX2_init_34 : decode cX2_init 34 = .ok (.putfield 28, 3) := by decide +kernel
theorem dX2_init_37 : decode cX2_init 37 = .ok (.aload_n 0, 1) := by decide +kernel
theorem dX2_init_38 : decode cX2_init 38 = .ok (.iload_n 3, 1) := by decide +kernel
theorem dX2_init_39 : decode cX2_init 39 = .ok (.putfield 31, 3) := by decide +kernel
theorem dX2_init_42 : decode cX2_init 42 = .ok (.aload_n 0, 1) := by decide +kernel
theorem dX2_init_43 : decode cX2_init 43 = .ok (.iload 4, 2) := by decide +kernel
theorem dX2_init_45 : decode cX2_init 45 = .ok (.putfield 34, 3) := by decide +kernel
theorem dX2_init_48 : decode cX2_init 48 = .ok (.aload_n 0, 1) := by decide +kernel
theorem dX2_init_49 : decode cX2_init 49 = .ok (.aload 5, 2) := by decide +kernel
theorem dX2_init_51 : decode cX2_init 51 = .ok (.putfield 37, 3) := by decide +kernel
theorem dX2_init_54 : decode cX2_init 54 = .ok (.return_, 1) := by decide +kernel
abbrev M_X2_init : MI := (RX2, cX2_init, 6, none, ({ frames := 1, cells := 1, slots := 16, locals := 20 } : Room), 1, 16, true)
def f_X2_init (h0 : AH) (p0 : Nat) (p1 : Int32) (p2 : Int32) (p3 : Int32) (p4 : Int32) (p5 : Nat) : Option AH := if kd h0 p0 = 3 + 1 then (gl h0 [p0, p5, p0]).bind fun _ => (xna h0 (p0 + 30) 0 16).bind fun h1 => (xpr h1 p0 3 5 (p0 + 30)).bind fun h2 => (xpi h2 p0 3 6 0).bind fun h3 => (xpi h3 p0 3 7 (-1)).bind fun h4 => (xpi h4 p0 3 8 0).bind fun h5 => (xpi h5 p0 3 0 p1).bind fun h6 => (xpi h6 p0 3 1 p2).bind fun h7 => (xpi h7 p0 3 2 p3).bind fun h8 => (xpi h8 p0 3 3 p4).bind fun h9 => (xpr h9 p0 3 4 p5).bind fun h10 => some h10 else none
theorem g_X2_init {h0 : AH} {p0 : Nat} {p1 : Int32} {p2 : Int32} {p3 : Int32} {p4 : Int32} {p5 : Nat} {x : AH} (e : f_X2_init h0 p0 p1 p2 p3 p4 p5 = some x) : kd h0 p0 = 3 + 1 := by
  unfold f_X2_init at e
  by_cases hk : kd h0 p0 = 3 + 1
  · exact hk
  · rw [if_neg hk] at e
    cases e
theorem km_X2_init : KM yX2_init M_X2_init 5 := ⟨in_tb 696 (by decide +kernel) rfl, in_tb 21 (by decide +kernel) rfl, by decide +kernel, rfl, rfl⟩
section
variable {l : Launch} {g : GG}
end
set_option maxRecDepth 100000 in
set_option maxHeartbeats 4000000 in
theorem c_X2_init (l : Launch) (g : GG) (h0 : AH) (p0 : Nat) (p1 : Int32) (p2 : Int32) (p3 : Int32) (p4 : Int32) (p5 : Nat) : CN l g yX2_init M_X2_init true [.ref p0, .int p1, .int p2, .int p3, .int p4, .ref p5] h0 rSv (f_X2_init h0 p0 p1 p2 p3 p4 p5) := by
  refine CN.of (by decide) rfl (fun hh => by first | rfl | cases hh) (Nat.le_of_ble_eq_true rfl) ?_
  unfold f_X2_init
  refine a_gd (fun hkd => ?_)
  refine a_aload_n dX2_init_0 rfl 0 rfl ?_
  refine a_objI dX2_init_1 w_methodLink_RainCover_Farm_3 w_instanceMethod_java_lang_Object__init____V w_code_java_lang_Object__init____V (by decide) (by decide) (Nat.le_of_ble_eq_true rfl) ?_
  refine a_aload_n dX2_init_4 rfl 0 rfl ?_
  refine a_bipush (v := 16) dX2_init_5 (by decide) ?_
  refine a_newa_int (r := (p0 + 30)) [p0, p5, p0] rfl dX2_init_7 w_arrayClass_int (by decide) (by decide) (fun h1 => ?_)
  refine a_widen 1 16 (by decide) (by decide) ?_
  refine a_putrF kc3 5 dX2_init_9 (by decide) rfl w_fieldLink_RainCover_Farm_9 (fun _ => ⟨rfl, rfl⟩) rfl rfl rfl (fun h2 => ?_)
  refine a_aload_n dX2_init_12 rfl 0 rfl ?_
  refine a_iconst (v := 0) dX2_init_13 (by decide) ?_
  refine a_puti kc3 6 dX2_init_14 (by decide) rfl w_fieldLink_RainCover_Farm_15 rfl rfl (fun h3 => ?_)
  refine a_aload_n dX2_init_17 rfl 0 rfl ?_
  refine a_iconst (v := (-1)) dX2_init_18 (by decide) ?_
  refine a_puti kc3 7 dX2_init_19 (by decide) rfl w_fieldLink_RainCover_Farm_19 rfl rfl (fun h4 => ?_)
  refine a_aload_n dX2_init_22 rfl 0 rfl ?_
  refine a_iconst (v := 0) dX2_init_23 (by decide) ?_
  refine a_puti kc3 8 dX2_init_24 (by decide) rfl w_fieldLink_RainCover_Farm_22 rfl rfl (fun h5 => ?_)
  refine a_aload_n dX2_init_27 rfl 0 rfl ?_
  refine a_iload_n dX2_init_28 rfl 1 rfl ?_
  refine a_putiF kc3 0 dX2_init_29 (by decide) rfl w_fieldLink_RainCover_Farm_25 rfl rfl rfl rfl (fun h6 => ?_)
  refine a_aload_n dX2_init_32 rfl 0 rfl ?_
  refine a_iload_n dX2_init_33 rfl 2 rfl ?_
  refine a_putiF kc3 1 dX2_init_34 (by decide) rfl w_fieldLink_RainCover_Farm_28 rfl rfl rfl rfl (fun h7 => ?_)
  refine a_aload_n dX2_init_37 rfl 0 rfl ?_
  refine a_iload_n dX2_init_38 rfl 3 rfl ?_
  refine a_putiF kc3 2 dX2_init_39 (by decide) rfl w_fieldLink_RainCover_Farm_31 rfl rfl rfl rfl (fun h8 => ?_)
  refine a_aload_n dX2_init_42 rfl 0 rfl ?_
  refine a_iload dX2_init_43 4 rfl ?_
  refine a_putiF kc3 3 dX2_init_45 (by decide) rfl w_fieldLink_RainCover_Farm_34 rfl rfl rfl rfl (fun h9 => ?_)
  refine a_aload_n dX2_init_48 rfl 0 rfl ?_
  refine a_aload dX2_init_49 5 rfl ?_
  refine a_putrF kc3 4 dX2_init_51 (by decide) rfl w_fieldLink_RainCover_Farm_37 (fun _ => ⟨rfl, rfl⟩) rfl rfl rfl (fun h10 => ?_)
  exact a_vret dX2_init_54 rfl rfl (by decide) (by decide)
theorem dX11_farm_0 : decode cX11_farm 0 = .ok (.iload_n 1, 1) := by decide +kernel
theorem dX11_farm_1 : decode cX11_farm 1 = .ok (.iload_n 2, 1) := by decide +kernel
theorem dX11_farm_2 : decode cX11_farm 2 = .ok (.invokestatic 96, 3) := by decide +kernel
theorem dX11_farm_5 : decode cX11_farm 5 = .ok (.ifCond .eq 23, 3) := by decide +kernel
theorem dX11_farm_8 : decode cX11_farm 8 = .ok (.iload_n 3, 1) := by decide +kernel
theorem dX11_farm_9 : decode cX11_farm 9 = .ok (.iconst 0, 1) := by decide +kernel
theorem dX11_farm_10 : decode cX11_farm 10 = .ok (.iconst 3, 1) := by decide +kernel
theorem dX11_farm_11 : decode cX11_farm 11 = .ok (.invokestatic 120, 3) := by decide +kernel
theorem dX11_farm_14 : decode cX11_farm 14 = .ok (.ifCond .eq 14, 3) := by decide +kernel
theorem dX11_farm_17 : decode cX11_farm 17 = .ok (.iload 4, 2) := by decide +kernel
theorem dX11_farm_19 : decode cX11_farm 19 = .ok (.iconst 1, 1) := by decide +kernel
theorem dX11_farm_20 : decode cX11_farm 20 = .ok (.bipush 99, 2) := by decide +kernel
theorem dX11_farm_22 : decode cX11_farm 22 = .ok (.invokestatic 120, 3) := by decide +kernel
theorem dX11_farm_25 : decode cX11_farm 25 = .ok (.ifCond .ne 6, 3) := by decide +kernel
theorem dX11_farm_28 : decode cX11_farm 28 = .ok (.bipush (-2), 2) := by decide +kernel
theorem dX11_farm_30 : decode cX11_farm 30 = .ok (.ireturn, 1) := by decide +kernel
theorem dX11_farm_31 : decode cX11_farm 31 = .ok (.aload_n 0, 1) := by decide +kernel
theorem dX11_farm_32 : decode cX11_farm 32 = .ok (.getfield 21, 3) := by decide +kernel
theorem dX11_farm_35 : decode cX11_farm 35 = .ok (.invokevirtual 104, 3) := by decide +kernel
theorem dX11_farm_38 : decode cX11_farm 38 = .ok (.istore 5, 2) := by decide +kernel
theorem dX11_farm_40 : decode cX11_farm 40 = .ok (.iload 5, 2) := by decide +kernel
theorem dX11_farm_42 : decode cX11_farm 42 = .ok (.bipush 24, 2) := by decide +kernel
theorem dX11_farm_44 : decode cX11_farm 44 = .ok (.if_icmp .lt 6, 3) := by decide +kernel
theorem dX11_farm_47 : decode cX11_farm 47 = .ok (.bipush (-4), 2) := by decide +kernel
theorem dX11_farm_49 : decode cX11_farm 49 = .ok (.ireturn, 1) := by decide +kernel
theorem dX11_farm_50 : decode cX11_farm 50 = .ok (.aload_n 0, 1) := by decide +kernel
theorem dX11_farm_51 : decode cX11_farm 51 = .ok (.getfield 21, 3) := by decide +kernel
theorem dX11_farm_54 : decode cX11_farm 54 = .ok (.new 233, 3) := by decide +kernel
theorem dX11_farm_57 : decode cX11_farm 57 = .ok (.dup, 1) := by decide +kernel
theorem dX11_farm_58 : decode cX11_farm 58 = .ok (.iload 5, 2) := by decide +kernel
theorem dX11_farm_60 : decode cX11_farm 60 = .ok (.iload_n 1, 1) := by decide +kernel
theorem dX11_farm_61 : decode cX11_farm 61 = .ok (.iload_n 2, 1) := by decide +kernel
theorem dX11_farm_62 : decode cX11_farm 62 = .ok (.iload 4, 2) := by decide +kernel
theorem dX11_farm_64 : decode cX11_farm 64 = .ok (.iload_n 3, 1) := by decide +kernel
theorem dX11_farm_65 : decode cX11_farm 65 = .ok (.iload 5, 2) := by decide +kernel
theorem dX11_farm_67 : decode cX11_farm 67 = .ok (.iload 4, 2) := by decide +kernel
theorem dX11_farm_69 : decode cX11_farm 69 = .ok (.invokestatic 235, 3) := by decide +kernel
theorem dX11_farm_72 : decode cX11_farm 72 = .ok (.invokespecial 239, 3) := by decide +kernel
theorem dX11_farm_75 : decode cX11_farm 75 = .ok (.invokevirtual 113, 3) := by decide +kernel
theorem dX11_farm_78 : decode cX11_farm 78 = .ok (.pop, 1) := by decide +kernel
theorem dX11_farm_79 : decode cX11_farm 79 = .ok (.iload 5, 2) := by decide +kernel
theorem dX11_farm_81 : decode cX11_farm 81 = .ok (.ireturn, 1) := by decide +kernel
abbrev M_X11_farm : MI := (RX11, cX11_farm, 6, (some .int), ({ frames := 7, cells := 5, slots := 89, locals := 161 } : Room), 5, 89, false)
def f_X11_farm (h0 : AH) (p0 : Nat) (p1 : Int32) (p2 : Int32) (p3 : Int32) (p4 : Int32) : Option (Int32 × AH) := if kd h0 p0 = 12 + 1 then (f_X11_isPlace h0 p1 p2).bind fun v1 => (if v1 = 0 then some ((-2), h0) else (f_X11_within h0 p3 0 3).bind fun v3 => (if v3 = 0 then some ((-2), h0) else (f_X11_within h0 p4 1 99).bind fun v5 => (if v5 = 0 then some ((-2), h0) else (xgr h0 p0 12 2).bind fun v7 => (f_Jx4a65c_size_8abf5 h0 v7).bind fun v8 => (if v8 < 24 then (xgr h0 p0 12 2).bind fun v10 => (gl h0 [p0, v10]).bind fun _ => (xnw h0 (300 + (v8 : Int32).toNatClampNeg) 3).bind fun h11 => (gl h11 [p0, (300 + (v8 : Int32).toNatClampNeg), (300 + (v8 : Int32).toNatClampNeg), v10]).bind fun _ => (f_X11_newCrop h11 p3 v8 p4).bind fun q12 => (gl q12.2 [p0, (300 + (v8 : Int32).toNatClampNeg), v10]).bind fun _ => (f_X2_init q12.2 (300 + (v8 : Int32).toNatClampNeg) v8 p1 p2 p4 q12.1).bind fun q13 => (gl q13 [p0]).bind fun _ => (f_Jx4a65c_add_9ea2d q13 v10 (300 + (v8 : Int32).toNatClampNeg)).bind fun q14 => some (v8, q14.2) else some ((-4), h0))))) else none
theorem g_X11_farm {h0 : AH} {p0 : Nat} {p1 : Int32} {p2 : Int32} {p3 : Int32} {p4 : Int32} {x : (Int32 × AH)} (e : f_X11_farm h0 p0 p1 p2 p3 p4 = some x) : kd h0 p0 = 12 + 1 := by
  unfold f_X11_farm at e
  by_cases hk : kd h0 p0 = 12 + 1
  · exact hk
  · rw [if_neg hk] at e
    cases e
theorem km_X11_farm : KM yX11_farm M_X11_farm 4 := ⟨in_tb 632 (by decide +kernel) rfl, in_tb 1 (by decide +kernel) rfl, by decide +kernel, rfl, rfl⟩
section
variable {l : Launch} {g : GG}
end
set_option maxRecDepth 100000 in
set_option maxHeartbeats 4000000 in
theorem c_X11_farm (l : Launch) (g : GG) (h0 : AH) (p0 : Nat) (p1 : Int32) (p2 : Int32) (p3 : Int32) (p4 : Int32) : CN l g yX11_farm M_X11_farm true [.ref p0, .int p1, .int p2, .int p3, .int p4] h0 rSi (f_X11_farm h0 p0 p1 p2 p3 p4) := by
  refine CN.of (by decide) rfl (fun hh => by first | rfl | cases hh) (Nat.le_of_ble_eq_true rfl) ?_
  unfold f_X11_farm
  refine a_gd (fun hkd => ?_)
  refine a_iload_n dX11_farm_0 rfl 1 rfl ?_
  refine a_iload_n dX11_farm_1 rfl 2 rfl ?_
  refine a_cS_Pi (as := [.int p1, .int p2]) (st := []) dX11_farm_2 (c_X11_isPlace l g h0 p1 p2) rfl km_X11_isPlace (hm_X11_isPlace) w_methodLink_RainCover_96 w_static_RainCover_isPlace__II_Z ⟨⟨by decide, by decide⟩, ⟨by decide, by decide⟩⟩ (Nat.le_of_ble_eq_true rfl) (fun v1 => ?_)
  refine a_if_eq 28 dX11_farm_5 (by decide) (fun c2 => ?_) (fun c2 => ?_)
  · refine a_bipush (v := (-2)) dX11_farm_28 (by decide) ?_
    exact a_iret dX11_farm_30 rfl rfl (by decide) (by decide)
  · refine a_iload_n dX11_farm_8 rfl 3 rfl ?_
    refine a_iconst (v := 0) dX11_farm_9 (by decide) ?_
    refine a_iconst (v := 3) dX11_farm_10 (by decide) ?_
    refine a_cS_Pi (as := [.int p3, .int 0, .int 3]) (st := []) dX11_farm_11 (c_X11_within l g h0 p3 0 3) rfl km_X11_within (hm_X11_within) w_methodLink_RainCover_120 w_static_RainCover_within__III_Z ⟨⟨by decide, by decide⟩, ⟨by decide, by decide⟩⟩ (Nat.le_of_ble_eq_true rfl) (fun v3 => ?_)
    refine a_if_eq 28 dX11_farm_14 (by decide) (fun c4 => ?_) (fun c4 => ?_)
    · refine a_bipush (v := (-2)) dX11_farm_28 (by decide) ?_
      exact a_iret dX11_farm_30 rfl rfl (by decide) (by decide)
    · refine a_iload dX11_farm_17 4 rfl ?_
      refine a_iconst (v := 1) dX11_farm_19 (by decide) ?_
      refine a_bipush (v := 99) dX11_farm_20 (by decide) ?_
      refine a_cS_Pi (as := [.int p4, .int 1, .int 99]) (st := []) dX11_farm_22 (c_X11_within l g h0 p4 1 99) rfl km_X11_within (hm_X11_within) w_methodLink_RainCover_120 w_static_RainCover_within__III_Z ⟨⟨by decide, by decide⟩, ⟨by decide, by decide⟩⟩ (Nat.le_of_ble_eq_true rfl) (fun v5 => ?_)
      refine a_if_ne 31 dX11_farm_25 (by decide) (fun c6 => ?_) (fun c6 => ?_)
      · refine a_bipush (v := (-2)) dX11_farm_28 (by decide) ?_
        exact a_iret dX11_farm_30 rfl rfl (by decide) (by decide)
      · refine a_aload_n dX11_farm_31 rfl 0 rfl ?_
        refine a_getr kc12 2 dX11_farm_32 (by decide) rfl w_fieldLink_RainCover_21 (fun v7 => ?_)
        refine a_cV_Pi (r := v7) (ci := 0) (as := []) (st := []) dX11_farm_35 (c_Jx4a65c_size_8abf5 l g h0 v7) rfl km_Jx4a65c_size_8abf5 (hm_Jx4a65c_size_8abf5) rfl (by decide) rfl (fun _ ee => g_Jx4a65c_size_8abf5 ee) w_methodLink_RainCover_104 w_instanceMethod_java_util_ArrayList_size___I w_selects_java_util_ArrayList_java_util_ArrayList_size___I_java_util_ArrayList_size___I ⟨⟨by decide, by decide⟩, ⟨by decide, by decide⟩⟩ (Nat.le_of_ble_eq_true rfl) (fun v8 => ?_)
        refine a_istore (lc2 := [(5, .int v8), (0, .ref p0), (1, .int p1), (2, .int p2), (3, .int p3), (4, .int p4)]) dX11_farm_38 (by decide) rfl ?_
        refine a_iload dX11_farm_40 0 rfl ?_
        refine a_bipush (v := 24) dX11_farm_42 (by decide) ?_
        refine a_icmp_lt 50 dX11_farm_44 (by decide) (fun c9 => ?_) (fun c9 => ?_)
        · refine a_aload_n dX11_farm_50 rfl 1 rfl ?_
          refine a_getr kc12 2 dX11_farm_51 (by decide) rfl w_fieldLink_RainCover_21 (fun v10 => ?_)
          refine a_new (r := (300 + (v8 : Int32).toNatClampNeg)) kc3 [p0, v10] rfl dX11_farm_54 (by decide +kernel) w_classLink_RainCover_233 w_instantiable_RainCover_Farm w_initialized_RainCover_Farm (by decide) (by decide) (fun h11 => ?_)
          refine a_widen 1 9 (by decide) (by decide) ?_
          refine a_dup dX11_farm_57 rfl ?_
          refine a_iload dX11_farm_58 0 rfl ?_
          refine a_iload_n dX11_farm_60 rfl 2 rfl ?_
          refine a_iload_n dX11_farm_61 rfl 3 rfl ?_
          refine a_iload dX11_farm_62 5 rfl ?_
          refine a_iload_n dX11_farm_64 rfl 4 rfl ?_
          refine a_iload dX11_farm_65 0 rfl ?_
          refine a_iload dX11_farm_67 5 rfl ?_
          refine a_xS_Sr (as := [.int p3, .int v8, .int p4]) (st := [.int p4, .int p2, .int p1, .int v8, .ref (300 + (v8 : Int32).toNatClampNeg), .ref (300 + (v8 : Int32).toNatClampNeg), .ref v10]) dX11_farm_69 [p0, (300 + (v8 : Int32).toNatClampNeg), (300 + (v8 : Int32).toNatClampNeg), v10] rfl (c_X11_newCrop l g h11 p3 v8 p4) rfl km_X11_newCrop w_methodLink_RainCover_235 w_static_RainCover_newCrop__III_LRainCover_Crop_ ⟨⟨by decide, by decide⟩, ⟨by decide, by decide⟩⟩ (Nat.le_of_ble_eq_true rfl) (fun q12 => ?_)
          refine a_widen 3 33 (by decide) (by decide) ?_
          refine a_xI_Sv (r := (300 + (v8 : Int32).toNatClampNeg)) (as := [.int v8, .int p1, .int p2, .int p4, .ref q12.1]) (st := [.ref (300 + (v8 : Int32).toNatClampNeg), .ref v10]) dX11_farm_72 [p0, (300 + (v8 : Int32).toNatClampNeg), v10] rfl (c_X2_init l g q12.2 (300 + (v8 : Int32).toNatClampNeg) v8 p1 p2 p4 q12.1) rfl km_X2_init rfl rfl w_methodLink_RainCover_239 w_instanceMethod_RainCover_Farm__init___IIIILRainCover_Crop__V ⟨⟨by decide, by decide⟩, ⟨by decide, by decide⟩⟩ (Nat.le_of_ble_eq_true rfl) (fun q13 => ?_)
          refine a_widen 4 49 (by decide) (by decide) ?_
          refine a_xV_Si (r := v10) (ci := 0) (as := [.ref (300 + (v8 : Int32).toNatClampNeg)]) (st := []) dX11_farm_75 [p0] rfl (c_Jx4a65c_add_9ea2d l g q13 v10 (300 + (v8 : Int32).toNatClampNeg)) rfl km_Jx4a65c_add_9ea2d rfl (by decide) rfl (fun _ ee => g_Jx4a65c_add_9ea2d ee) w_methodLink_RainCover_113 w_instanceMethod_java_util_ArrayList_add__Ljava_lang_Object__Z w_selects_java_util_ArrayList_java_util_ArrayList_add__Ljava_lang_Object__Z_java_util_ArrayList_add__Ljava_lang_Object__Z ⟨⟨by decide, by decide⟩, ⟨by decide, by decide⟩⟩ (Nat.le_of_ble_eq_true rfl) (fun q14 => ?_)
          refine a_widen 5 89 (by decide) (by decide) ?_
          refine a_pop dX11_farm_78 rfl ?_
          refine a_iload dX11_farm_79 0 rfl ?_
          exact a_iret dX11_farm_81 rfl rfl (by decide) (by decide)
        · refine a_bipush (v := (-4)) dX11_farm_47 (by decide) ?_
          exact a_iret dX11_farm_49 rfl rfl (by decide) (by decide)
theorem dX11_plant_0 : decode cX11_plant 0 = .ok (.iload_n 1, 1) := by decide +kernel
theorem dX11_plant_1 : decode cX11_plant 1 = .ok (.iconst 0, 1) := by decide +kernel
theorem dX11_plant_2 : decode cX11_plant 2 = .ok (.iconst 3, 1) := by decide +kernel
theorem dX11_plant_3 : decode cX11_plant 3 = .ok (.invokestatic 120, 3) := by decide +kernel
theorem dX11_plant_6 : decode cX11_plant 6 = .ok (.ifCond .ne 5, 3) := by decide +kernel
theorem dX11_plant_9 : decode cX11_plant 9 = .ok (.iconst (-1), 1) := by decide +kernel
theorem dX11_plant_10 : decode cX11_plant 10 = .ok (.ireturn, 1) := by decide +kernel
theorem dX11_plant_11 : decode cX11_plant 11 = .ok (.iload_n 2, 1) := by decide +kernel
theorem dX11_plant_12 : decode cX11_plant 12 = .ok (.iconst 0, 1) := by decide +kernel
theorem dX11_plant_13 : decode cX11_plant 13 = .ok (.iconst 5, 1) := by decide +kernel
theorem dX11_plant_14 : decode cX11_plant 14 = .ok (.invokestatic 120, 3) := by decide +kernel
theorem dX11_plant_17 : decode cX11_plant 17 = .ok (.ifCond .ne 6, 3) := by decide +kernel
theorem dX11_plant_20 : decode cX11_plant 20 = .ok (.bipush (-2), 2) := by decide +kernel
theorem dX11_plant_22 : decode cX11_plant 22 = .ok (.ireturn, 1) := by decide +kernel
theorem dX11_plant_23 : decode cX11_plant 23 = .ok (.aload_n 0, 1) := by decide +kernel
theorem dX11_plant_24 : decode cX11_plant 24 = .ok (.getfield 45, 3) := by decide +kernel
theorem dX11_plant_27 : decode cX11_plant 27 = .ok (.iload_n 1, 1) := by decide +kernel
theorem dX11_plant_28 : decode cX11_plant 28 = .ok (.iaload, 1) := by decide +kernel
theorem dX11_plant_29 : decode cX11_plant 29 = .ok (.istore_n 3, 1) := by decide +kernel
theorem dX11_plant_30 : decode cX11_plant 30 = .ok (.aload_n 0, 1) := by decide +kernel
theorem dX11_plant_31 : decode cX11_plant 31 = .ok (.getfield 45, 3) := by decide +kernel
theorem dX11_plant_34 : decode cX11_plant 34 = .ok (.iload_n 1, 1) := by decide +kernel
theorem dX11_plant_35 : decode cX11_plant 35 = .ok (.iload_n 2, 1) := by decide +kernel
theorem dX11_plant_36 : decode cX11_plant 36 = .ok (.iastore, 1) := by decide +kernel
theorem dX11_plant_37 : decode cX11_plant 37 = .ok (.iload_n 3, 1) := by decide +kernel
theorem dX11_plant_38 : decode cX11_plant 38 = .ok (.ireturn, 1) := by decide +kernel
abbrev M_X11_plant : MI := (RX11, cX11_plant, 4, (some .int), ({ frames := 1, cells := 0, slots := 0, locals := 22 } : Room), 0, 0, false)
def f_X11_plant (h0 : AH) (p0 : Nat) (p1 : Int32) (p2 : Int32) : Option (Int32 × AH) := if kd h0 p0 = 12 + 1 then (f_X11_within h0 p1 0 3).bind fun v1 => (if v1 = 0 then some ((-1), h0) else (f_X11_within h0 p2 0 5).bind fun v3 => (if v3 = 0 then some ((-2), h0) else (xgr h0 p0 12 7).bind fun v5 => (xia h0 v5 p1).bind fun v6 => (xgr h0 p0 12 7).bind fun v7 => (xis h0 v7 p1 p2).bind fun h8 => some (v6, h8))) else none
theorem g_X11_plant {h0 : AH} {p0 : Nat} {p1 : Int32} {p2 : Int32} {x : (Int32 × AH)} (e : f_X11_plant h0 p0 p1 p2 = some x) : kd h0 p0 = 12 + 1 := by
  unfold f_X11_plant at e
  by_cases hk : kd h0 p0 = 12 + 1
  · exact hk
  · rw [if_neg hk] at e
    cases e
theorem km_X11_plant : KM yX11_plant M_X11_plant 2 := ⟨in_tb 738 (by decide +kernel) rfl, in_tb 1 (by decide +kernel) rfl, by decide +kernel, rfl, rfl⟩
theorem hm_X11_plant : M_X11_plant.2.2.2.2.2.1 = 0 ∧ M_X11_plant.2.2.2.2.2.2.1 = 0 := ⟨rfl, rfl⟩
section
variable {l : Launch} {g : GG}
end
set_option maxRecDepth 100000 in
set_option maxHeartbeats 4000000 in
theorem c_X11_plant (l : Launch) (g : GG) (h0 : AH) (p0 : Nat) (p1 : Int32) (p2 : Int32) : CN l g yX11_plant M_X11_plant false [.ref p0, .int p1, .int p2] h0 rSi (f_X11_plant h0 p0 p1 p2) := by
  refine CN.of (by decide) rfl (fun hh => by first | rfl | cases hh) (Nat.le_of_ble_eq_true rfl) ?_
  unfold f_X11_plant
  refine a_gd (fun hkd => ?_)
  refine a_iload_n dX11_plant_0 rfl 1 rfl ?_
  refine a_iconst (v := 0) dX11_plant_1 (by decide) ?_
  refine a_iconst (v := 3) dX11_plant_2 (by decide) ?_
  refine a_cS_Pi (as := [.int p1, .int 0, .int 3]) (st := []) dX11_plant_3 (c_X11_within l g h0 p1 0 3) rfl km_X11_within (hm_X11_within) w_methodLink_RainCover_120 w_static_RainCover_within__III_Z ⟨⟨by decide, by decide⟩, ⟨by decide, by decide⟩⟩ (Nat.le_of_ble_eq_true rfl) (fun v1 => ?_)
  refine a_if_ne 11 dX11_plant_6 (by decide) (fun c2 => ?_) (fun c2 => ?_)
  · refine a_iconst (v := (-1)) dX11_plant_9 (by decide) ?_
    exact a_iret dX11_plant_10 rfl rfl (by decide) (by decide)
  · refine a_iload_n dX11_plant_11 rfl 2 rfl ?_
    refine a_iconst (v := 0) dX11_plant_12 (by decide) ?_
    refine a_iconst (v := 5) dX11_plant_13 (by decide) ?_
    refine a_cS_Pi (as := [.int p2, .int 0, .int 5]) (st := []) dX11_plant_14 (c_X11_within l g h0 p2 0 5) rfl km_X11_within (hm_X11_within) w_methodLink_RainCover_120 w_static_RainCover_within__III_Z ⟨⟨by decide, by decide⟩, ⟨by decide, by decide⟩⟩ (Nat.le_of_ble_eq_true rfl) (fun v3 => ?_)
    refine a_if_ne 23 dX11_plant_17 (by decide) (fun c4 => ?_) (fun c4 => ?_)
    · refine a_bipush (v := (-2)) dX11_plant_20 (by decide) ?_
      exact a_iret dX11_plant_22 rfl rfl (by decide) (by decide)
    · refine a_aload_n dX11_plant_23 rfl 0 rfl ?_
      refine a_getr kc12 7 dX11_plant_24 (by decide) rfl w_fieldLink_RainCover_45 (fun v5 => ?_)
      refine a_iload_n dX11_plant_27 rfl 1 rfl ?_
      refine a_iald dX11_plant_28 (fun v6 => ?_)
      refine a_istore_n (lc2 := [(3, .int v6), (0, .ref p0), (1, .int p1), (2, .int p2)]) dX11_plant_29 rfl (by decide) rfl ?_
      refine a_aload_n dX11_plant_30 rfl 1 rfl ?_
      refine a_getr kc12 7 dX11_plant_31 (by decide) rfl w_fieldLink_RainCover_45 (fun v7 => ?_)
      refine a_iload_n dX11_plant_34 rfl 2 rfl ?_
      refine a_iload_n dX11_plant_35 rfl 3 rfl ?_
      refine a_iast dX11_plant_36 (fun h8 => ?_)
      refine a_iload_n dX11_plant_37 rfl 0 rfl ?_
      exact a_iret dX11_plant_38 rfl rfl (by decide) (by decide)
theorem dX11_isFarm_0 : decode cX11_isFarm 0 = .ok (.iload_n 1, 1) := by decide +kernel
theorem dX11_isFarm_1 : decode cX11_isFarm 1 = .ok (.iconst 0, 1) := by decide +kernel
theorem dX11_isFarm_2 : decode cX11_isFarm 2 = .ok (.aload_n 0, 1) := by decide +kernel
theorem dX11_isFarm_3 : decode cX11_isFarm 3 = .ok (.getfield 21, 3) := by decide +kernel
theorem dX11_isFarm_6 : decode cX11_isFarm 6 = .ok (.invokevirtual 104, 3) := by decide +kernel
theorem dX11_isFarm_9 : decode cX11_isFarm 9 = .ok (.iconst 1, 1) := by decide +kernel
theorem dX11_isFarm_10 : decode cX11_isFarm 10 = .ok (.isub, 1) := by decide +kernel
theorem dX11_isFarm_11 : decode cX11_isFarm 11 = .ok (.invokestatic 120, 3) := by decide +kernel
theorem dX11_isFarm_14 : decode cX11_isFarm 14 = .ok (.ireturn, 1) := by decide +kernel
abbrev M_X11_isFarm : MI := (RX11, cX11_isFarm, 2, (some .boolean), ({ frames := 1, cells := 0, slots := 0, locals := 22 } : Room), 0, 0, false)
def f_X11_isFarm (h : AH) (p0 : Nat) (p1 : Int32) : Option Int32 := if kd h p0 = 12 + 1 then (xgr h p0 12 2).bind fun v1 => (f_Jx4a65c_size_8abf5 h v1).bind fun v2 => (f_X11_within h p1 0 (v2 - 1)).bind fun v3 => (if v3 = 0 ∨ v3 = 1 then some v3 else none) else none
theorem g_X11_isFarm {h : AH} {p0 : Nat} {p1 : Int32} {x : Int32} (e : f_X11_isFarm h p0 p1 = some x) : kd h p0 = 12 + 1 := by
  unfold f_X11_isFarm at e
  by_cases hk : kd h p0 = 12 + 1
  · exact hk
  · rw [if_neg hk] at e
    cases e
theorem km_X11_isFarm : KM yX11_isFarm M_X11_isFarm 1 := ⟨in_tb 746 (by decide +kernel) rfl, in_tb 1 (by decide +kernel) rfl, by decide +kernel, rfl, rfl⟩
theorem hm_X11_isFarm : M_X11_isFarm.2.2.2.2.2.1 = 0 ∧ M_X11_isFarm.2.2.2.2.2.2.1 = 0 := ⟨rfl, rfl⟩
section
variable {l : Launch} {g : GG}
end
set_option maxRecDepth 100000 in
set_option maxHeartbeats 4000000 in
theorem c_X11_isFarm (l : Launch) (g : GG) (h : AH) (p0 : Nat) (p1 : Int32) : CN l g yX11_isFarm M_X11_isFarm false [.ref p0, .int p1] h ((rPi h)) (f_X11_isFarm h p0 p1) := by
  refine CN.of (by decide) rfl (fun hh => by first | rfl | cases hh) (Nat.le_of_ble_eq_true rfl) ?_
  unfold f_X11_isFarm
  refine a_gd (fun hkd => ?_)
  refine a_iload_n dX11_isFarm_0 rfl 1 rfl ?_
  refine a_iconst (v := 0) dX11_isFarm_1 (by decide) ?_
  refine a_aload_n dX11_isFarm_2 rfl 0 rfl ?_
  refine a_getr kc12 2 dX11_isFarm_3 (by decide) rfl w_fieldLink_RainCover_21 (fun v1 => ?_)
  refine a_cV_Pi (r := v1) (ci := 0) (as := []) (st := [.int 0, .int p1]) dX11_isFarm_6 (c_Jx4a65c_size_8abf5 l g h v1) rfl km_Jx4a65c_size_8abf5 (hm_Jx4a65c_size_8abf5) rfl (by decide) rfl (fun _ ee => g_Jx4a65c_size_8abf5 ee) w_methodLink_RainCover_104 w_instanceMethod_java_util_ArrayList_size___I w_selects_java_util_ArrayList_java_util_ArrayList_size___I_java_util_ArrayList_size___I ⟨⟨by decide, by decide⟩, ⟨by decide, by decide⟩⟩ (Nat.le_of_ble_eq_true rfl) (fun v2 => ?_)
  refine a_iconst (v := 1) dX11_isFarm_9 (by decide) ?_
  refine a_isub dX11_isFarm_10 ?_
  refine a_cS_Pi (as := [.int p1, .int 0, .int (v2 - 1)]) (st := []) dX11_isFarm_11 (c_X11_within l g h p1 0 (v2 - 1)) rfl km_X11_within (hm_X11_within) w_methodLink_RainCover_120 w_static_RainCover_within__III_Z ⟨⟨by decide, by decide⟩, ⟨by decide, by decide⟩⟩ (Nat.le_of_ble_eq_true rfl) (fun v3 => ?_)
  exact a_gd (fun c4 => a_zret dX11_isFarm_14 rfl c4 rfl (by decide) (by decide))
theorem dX7_at_0 : decode cX7_at 0 = .ok (.aload_n 0, 1) := by decide +kernel
theorem dX7_at_1 : decode cX7_at 1 = .ok (.getfield 21, 3) := by decide +kernel
theorem dX7_at_4 : decode cX7_at 4 = .ok (.iload_n 1, 1) := by decide +kernel
theorem dX7_at_5 : decode cX7_at 5 = .ok (.aload_n 0, 1) := by decide +kernel
theorem dX7_at_6 : decode cX7_at 6 = .ok (.getfield 18, 3) := by decide +kernel
theorem dX7_at_9 : decode cX7_at 9 = .ok (.imul, 1) := by decide +kernel
theorem dX7_at_10 : decode cX7_at 10 = .ok (.iload_n 2, 1) := by decide +kernel
theorem dX7_at_11 : decode cX7_at 11 = .ok (.iadd, 1) := by decide +kernel
theorem dX7_at_12 : decode cX7_at 12 = .ok (.iaload, 1) := by decide +kernel
theorem dX7_at_13 : decode cX7_at 13 = .ok (.ireturn, 1) := by decide +kernel
abbrev M_X7_at : MI := (RX7, cX7_at, 3, (some .int), ({ frames := 0, cells := 0, slots := 0, locals := 0 } : Room), 0, 0, false)
def f_X7_at (h : AH) (p0 : Nat) (p1 : Int32) (p2 : Int32) : Option Int32 := if kd h p0 = 8 + 1 then (xgr h p0 8 2).bind fun v1 => (xgi h p0 8 1).bind fun v2 => (xia h v1 ((p1 * v2) + p2)).bind fun v3 => some v3 else none
theorem g_X7_at {h : AH} {p0 : Nat} {p1 : Int32} {p2 : Int32} {x : Int32} (e : f_X7_at h p0 p1 p2 = some x) : kd h p0 = 8 + 1 := by
  unfold f_X7_at at e
  by_cases hk : kd h p0 = 8 + 1
  · exact hk
  · rw [if_neg hk] at e
    cases e
theorem km_X7_at : KM yX7_at M_X7_at 2 := ⟨in_tb 754 (by decide +kernel) rfl, in_tb 7 (by decide +kernel) rfl, by decide +kernel, rfl, rfl⟩
theorem hm_X7_at : M_X7_at.2.2.2.2.2.1 = 0 ∧ M_X7_at.2.2.2.2.2.2.1 = 0 := ⟨rfl, rfl⟩
section
variable {l : Launch} {g : GG}
end
set_option maxRecDepth 100000 in
set_option maxHeartbeats 4000000 in
theorem c_X7_at (l : Launch) (g : GG) (h : AH) (p0 : Nat) (p1 : Int32) (p2 : Int32) : CN l g yX7_at M_X7_at false [.ref p0, .int p1, .int p2] h ((rPi h)) (f_X7_at h p0 p1 p2) := by
  refine CN.of (by decide) rfl (fun hh => by first | rfl | cases hh) (Nat.le_of_ble_eq_true rfl) ?_
  unfold f_X7_at
  refine a_gd (fun hkd => ?_)
  refine a_aload_n dX7_at_0 rfl 0 rfl ?_
  refine a_getr kc8 2 dX7_at_1 (by decide) rfl w_fieldLink_RainCover_Table_21 (fun v1 => ?_)
  refine a_iload_n dX7_at_4 rfl 1 rfl ?_
  refine a_aload_n dX7_at_5 rfl 0 rfl ?_
  refine a_geti kc8 1 dX7_at_6 (by decide) rfl w_fieldLink_RainCover_Table_18 (fun v2 => ?_)
  refine a_imul dX7_at_9 ?_
  refine a_iload_n dX7_at_10 rfl 2 rfl ?_
  refine a_iadd dX7_at_11 ?_
  refine a_iald dX7_at_12 (fun v3 => ?_)
  exact a_iret dX7_at_13 rfl rfl (by decide) (by decide)
theorem dX11_coverOf_0 : decode cX11_coverOf 0 = .ok (.iconst 0, 1) := by decide +kernel
theorem dX11_coverOf_1 : decode cX11_coverOf 1 = .ok (.istore_n 3, 1) := by decide +kernel
theorem dX11_coverOf_2 : decode cX11_coverOf 2 = .ok (.iload_n 3, 1) := by decide +kernel
theorem dX11_coverOf_3 : decode cX11_coverOf 3 = .ok (.aload_n 0, 1) := by decide +kernel
theorem dX11_coverOf_4 : decode cX11_coverOf 4 = .ok (.getfield 53, 3) := by decide +kernel
theorem dX11_coverOf_7 : decode cX11_coverOf 7 = .ok (.getfield 306, 3) := by decide +kernel
theorem dX11_coverOf_10 : decode cX11_coverOf 10 = .ok (.if_icmp .ge 50, 3) := by decide +kernel
theorem dX11_coverOf_13 : decode cX11_coverOf 13 = .ok (.aload_n 0, 1) := by decide +kernel
theorem dX11_coverOf_14 : decode cX11_coverOf 14 = .ok (.getfield 53, 3) := by decide +kernel
theorem dX11_coverOf_17 : decode cX11_coverOf 17 = .ok (.iload_n 3, 1) := by decide +kernel
theorem dX11_coverOf_18 : decode cX11_coverOf 18 = .ok (.iconst 0, 1) := by decide +kernel
theorem dX11_coverOf_19 : decode cX11_coverOf 19 = .ok (.invokevirtual 266, 3) := by decide +kernel
theorem dX11_coverOf_22 : decode cX11_coverOf 22 = .ok (.iload_n 1, 1) := by decide +kernel
theorem dX11_coverOf_23 : decode cX11_coverOf 23 = .ok (.if_icmp .ne 31, 3) := by decide +kernel
theorem dX11_coverOf_26 : decode cX11_coverOf 26 = .ok (.aload_n 0, 1) := by decide +kernel
theorem dX11_coverOf_27 : decode cX11_coverOf 27 = .ok (.getfield 53, 3) := by decide +kernel
theorem dX11_coverOf_30 : decode cX11_coverOf 30 = .ok (.iload_n 3, 1) := by decide +kernel
theorem dX11_coverOf_31 : decode cX11_coverOf 31 = .ok (.iconst 1, 1) := by decide +kernel
theorem dX11_coverOf_32 : decode cX11_coverOf 32 = .ok (.invokevirtual 266, 3) := by decide +kernel
theorem dX11_coverOf_35 : decode cX11_coverOf 35 = .ok (.iload_n 2, 1) := by decide +kernel
theorem dX11_coverOf_36 : decode cX11_coverOf 36 = .ok (.if_icmp .gt 18, 3) := by decide +kernel
theorem dX11_coverOf_39 : decode cX11_coverOf 39 = .ok (.iload_n 2, 1) := by decide +kernel
theorem dX11_coverOf_40 : decode cX11_coverOf 40 = .ok (.aload_n 0, 1) := by decide +kernel
theorem dX11_coverOf_41 : decode cX11_coverOf 41 = .ok (.getfield 53, 3) := by decide +kernel
theorem dX11_coverOf_44 : decode cX11_coverOf 44 = .ok (.iload_n 3, 1) := by decide +kernel
theorem dX11_coverOf_45 : decode cX11_coverOf 45 = .ok (.iconst 3, 1) := by decide +kernel
theorem dX11_coverOf_46 : decode cX11_coverOf 46 = .ok (.invokevirtual 266, 3) := by decide +kernel
theorem dX11_coverOf_49 : decode cX11_coverOf 49 = .ok (.if_icmp .ge 5, 3) := by decide +kernel
theorem dX11_coverOf_52 : decode cX11_coverOf 52 = .ok (.iload_n 3, 1) := by decide +kernel
theorem dX11_coverOf_53 : decode cX11_coverOf 53 = .ok (.ireturn, 1) := by decide +kernel
theorem dX11_coverOf_54 : decode cX11_coverOf 54 = .ok (.iinc 3 1, 3) := by decide +kernel
theorem dX11_coverOf_57 : decode cX11_coverOf 57 = .ok (.goto (-55), 3) := by decide +kernel
theorem dX11_coverOf_60 : decode cX11_coverOf 60 = .ok (.iconst (-1), 1) := by decide +kernel
theorem dX11_coverOf_61 : decode cX11_coverOf 61 = .ok (.ireturn, 1) := by decide +kernel
abbrev M_X11_coverOf : MI := (RX11, cX11_coverOf, 4, (some .int), ({ frames := 1, cells := 0, slots := 0, locals := 22 } : Room), 0, 0, false)
def f_X11_coverOf_b54 (h : AH) (N : Nat) (K2 : Nat → Int32 → Int32 → Int32 → Option Int32) (x0 : Nat) (x1 : Int32) (x2 : Int32) (x3 : Int32) : Option Int32 := K2 x0 x1 x2 (x3 + 1)
def f_X11_coverOf_b2_body (h : AH) (N : Nat) (K2 : Nat → Int32 → Int32 → Int32 → Option Int32) (x0 : Nat) (x1 : Int32) (x2 : Int32) (x3 : Int32) : Option Int32 := (xgr h x0 12 8).bind fun v1 => (xgi h v1 8 3).bind fun v2 => (if v2 ≤ x3 then some (-1) else (xgr h x0 12 8).bind fun v4 => (f_X7_at h v4 x3 0).bind fun v5 => (if v5 = x1 then (xgr h x0 12 8).bind fun v7 => (f_X7_at h v7 x3 1).bind fun v8 => (if x2 < v8 then f_X11_coverOf_b54 h N K2 x0 x1 x2 x3 else (xgr h x0 12 8).bind fun v10 => (f_X7_at h v10 x3 3).bind fun v11 => (if v11 ≤ x2 then f_X11_coverOf_b54 h N K2 x0 x1 x2 x3 else some x3)) else f_X11_coverOf_b54 h N K2 x0 x1 x2 x3))
def f_X11_coverOf_b2 (h : AH) (N : Nat) : Nat → Nat → Int32 → Int32 → Int32 → Option Int32
  | 0, _, _, _, _ => none
  | n + 1, x0, x1, x2, x3 => f_X11_coverOf_b2_body h N  (f_X11_coverOf_b2 h N  n) x0 x1 x2 x3
def f_X11_coverOf (h : AH) (N : Nat) (p0 : Nat) (p1 : Int32) (p2 : Int32) : Option Int32 := if kd h p0 = 12 + 1 then f_X11_coverOf_b2 h N N p0 p1 p2 0 else none
theorem g_X11_coverOf {h : AH} {N : Nat} {p0 : Nat} {p1 : Int32} {p2 : Int32} {x : Int32} (e : f_X11_coverOf h N p0 p1 p2 = some x) : kd h p0 = 12 + 1 := by
  unfold f_X11_coverOf at e
  by_cases hk : kd h p0 = 12 + 1
  · exact hk
  · rw [if_neg hk] at e
    cases e
theorem km_X11_coverOf : KM yX11_coverOf M_X11_coverOf 2 := ⟨in_tb 750 (by decide +kernel) rfl, in_tb 1 (by decide +kernel) rfl, by decide +kernel, rfl, rfl⟩
theorem hm_X11_coverOf : M_X11_coverOf.2.2.2.2.2.1 = 0 ∧ M_X11_coverOf.2.2.2.2.2.2.1 = 0 := ⟨rfl, rfl⟩
section
variable {l : Launch} {g : GG}
set_option maxRecDepth 100000 in
set_option maxHeartbeats 4000000 in
theorem t_X11_coverOf_b54 (h : AH) (N : Nat) (K2 : Nat → Int32 → Int32 → Int32 → Option Int32) (hK2 : ∀ (z0 : Nat) (z1 : Int32) (z2 : Int32) (z3 : Int32), AO l g M_X11_coverOf false h 2 [(0, .ref z0), (1, .int z1), (2, .int z2), (3, .int z3)] [] h 0 0 (rPi h) (K2 z0 z1 z2 z3)) (x0 : Nat) (x1 : Int32) (x2 : Int32) (x3 : Int32) : AO l g M_X11_coverOf false h 54 [(0, .ref x0), (1, .int x1), (2, .int x2), (3, .int x3)] [] h 0 0 (rPi h) (f_X11_coverOf_b54 h N K2 x0 x1 x2 x3) := by
  unfold f_X11_coverOf_b54
  refine a_iinc (q := 3) (v := (x3 + 1)) (lc2 := [(3, .int (x3 + 1)), (0, .ref x0), (1, .int x1), (2, .int x2)]) dX11_coverOf_54 rfl rfl (by decide) rfl ?_
  refine a_goto 2 dX11_coverOf_57 (by decide) ?_
  refine a_pick (lc2 := [(0, .ref x0), (1, .int x1), (2, .int x2), (3, .int (x3 + 1))]) [1, 2, 3, 0] rfl ?_
  exact hK2 x0 x1 x2 (x3 + 1)
set_option maxRecDepth 100000 in
set_option maxHeartbeats 4000000 in
theorem t_X11_coverOf_b2_body (h : AH) (N : Nat) (K2 : Nat → Int32 → Int32 → Int32 → Option Int32) (hK2 : ∀ (z0 : Nat) (z1 : Int32) (z2 : Int32) (z3 : Int32), AO l g M_X11_coverOf false h 2 [(0, .ref z0), (1, .int z1), (2, .int z2), (3, .int z3)] [] h 0 0 (rPi h) (K2 z0 z1 z2 z3)) (x0 : Nat) (x1 : Int32) (x2 : Int32) (x3 : Int32) : AO l g M_X11_coverOf false h 2 [(0, .ref x0), (1, .int x1), (2, .int x2), (3, .int x3)] [] h 0 0 (rPi h) (f_X11_coverOf_b2_body h N K2 x0 x1 x2 x3) := by
  unfold f_X11_coverOf_b2_body
  refine a_iload_n dX11_coverOf_2 rfl 3 rfl ?_
  refine a_aload_n dX11_coverOf_3 rfl 0 rfl ?_
  refine a_getr kc12 8 dX11_coverOf_4 (by decide) rfl w_fieldLink_RainCover_53 (fun v1 => ?_)
  refine a_geti kc8 3 dX11_coverOf_7 (by decide) rfl w_fieldLink_RainCover_306 (fun v2 => ?_)
  refine a_icmp_ge 60 dX11_coverOf_10 (by decide) (fun c3 => ?_) (fun c3 => ?_)
  · refine a_iconst (v := (-1)) dX11_coverOf_60 (by decide) ?_
    exact a_iret dX11_coverOf_61 rfl rfl (by decide) (by decide)
  · refine a_aload_n dX11_coverOf_13 rfl 0 rfl ?_
    refine a_getr kc12 8 dX11_coverOf_14 (by decide) rfl w_fieldLink_RainCover_53 (fun v4 => ?_)
    refine a_iload_n dX11_coverOf_17 rfl 3 rfl ?_
    refine a_iconst (v := 0) dX11_coverOf_18 (by decide) ?_
    refine a_cV_Pi (r := v4) (ci := 8) (as := [.int x3, .int 0]) (st := []) dX11_coverOf_19 (c_X7_at l g h v4 x3 0) rfl km_X7_at (hm_X7_at) rfl (by decide) rfl (fun _ ee => g_X7_at ee) w_methodLink_RainCover_266 w_instanceMethod_RainCover_Table_at__II_I w_selects_RainCover_Table_RainCover_Table_at__II_I_RainCover_Table_at__II_I ⟨⟨by decide, by decide⟩, ⟨by decide, by decide⟩⟩ (Nat.le_of_ble_eq_true rfl) (fun v5 => ?_)
    refine a_iload_n dX11_coverOf_22 rfl 1 rfl ?_
    refine a_icmp_ne 54 dX11_coverOf_23 (by decide) (fun c6 => ?_) (fun c6 => ?_)
    · refine a_aload_n dX11_coverOf_26 rfl 0 rfl ?_
      refine a_getr kc12 8 dX11_coverOf_27 (by decide) rfl w_fieldLink_RainCover_53 (fun v7 => ?_)
      refine a_iload_n dX11_coverOf_30 rfl 3 rfl ?_
      refine a_iconst (v := 1) dX11_coverOf_31 (by decide) ?_
      refine a_cV_Pi (r := v7) (ci := 8) (as := [.int x3, .int 1]) (st := []) dX11_coverOf_32 (c_X7_at l g h v7 x3 1) rfl km_X7_at (hm_X7_at) rfl (by decide) rfl (fun _ ee => g_X7_at ee) w_methodLink_RainCover_266 w_instanceMethod_RainCover_Table_at__II_I w_selects_RainCover_Table_RainCover_Table_at__II_I_RainCover_Table_at__II_I ⟨⟨by decide, by decide⟩, ⟨by decide, by decide⟩⟩ (Nat.le_of_ble_eq_true rfl) (fun v8 => ?_)
      refine a_iload_n dX11_coverOf_35 rfl 2 rfl ?_
      refine a_icmp_gt 54 dX11_coverOf_36 (by decide) (fun c9 => ?_) (fun c9 => ?_)
      · exact t_X11_coverOf_b54 h N K2 hK2 x0 x1 x2 x3
      · refine a_iload_n dX11_coverOf_39 rfl 2 rfl ?_
        refine a_aload_n dX11_coverOf_40 rfl 0 rfl ?_
        refine a_getr kc12 8 dX11_coverOf_41 (by decide) rfl w_fieldLink_RainCover_53 (fun v10 => ?_)
        refine a_iload_n dX11_coverOf_44 rfl 3 rfl ?_
        refine a_iconst (v := 3) dX11_coverOf_45 (by decide) ?_
        refine a_cV_Pi (r := v10) (ci := 8) (as := [.int x3, .int 3]) (st := [.int x2]) dX11_coverOf_46 (c_X7_at l g h v10 x3 3) rfl km_X7_at (hm_X7_at) rfl (by decide) rfl (fun _ ee => g_X7_at ee) w_methodLink_RainCover_266 w_instanceMethod_RainCover_Table_at__II_I w_selects_RainCover_Table_RainCover_Table_at__II_I_RainCover_Table_at__II_I ⟨⟨by decide, by decide⟩, ⟨by decide, by decide⟩⟩ (Nat.le_of_ble_eq_true rfl) (fun v11 => ?_)
        refine a_icmp_ge 54 dX11_coverOf_49 (by decide) (fun c12 => ?_) (fun c12 => ?_)
        · exact t_X11_coverOf_b54 h N K2 hK2 x0 x1 x2 x3
        · refine a_iload_n dX11_coverOf_52 rfl 3 rfl ?_
          exact a_iret dX11_coverOf_53 rfl rfl (by decide) (by decide)
    · exact t_X11_coverOf_b54 h N K2 hK2 x0 x1 x2 x3
set_option maxRecDepth 100000 in
set_option maxHeartbeats 4000000 in
theorem t_X11_coverOf_b2 (h : AH) (N : Nat) : ∀ (n : Nat) (x0 : Nat) (x1 : Int32) (x2 : Int32) (x3 : Int32) , AO l g M_X11_coverOf false h 2 [(0, .ref x0), (1, .int x1), (2, .int x2), (3, .int x3)] [] h 0 0 (rPi h) (f_X11_coverOf_b2 h N  n x0 x1 x2 x3) := by
  intro n
  induction n with
  | zero => intro x0 x1 x2 x3; exact a_eq rfl a_none
  | succ n ih => intro x0 x1 x2 x3; exact a_eq rfl (t_X11_coverOf_b2_body h N  (f_X11_coverOf_b2 h N  n) ih x0 x1 x2 x3)
end
set_option maxRecDepth 100000 in
set_option maxHeartbeats 4000000 in
theorem c_X11_coverOf (l : Launch) (g : GG) (h : AH) (N : Nat) (p0 : Nat) (p1 : Int32) (p2 : Int32) : CN l g yX11_coverOf M_X11_coverOf false [.ref p0, .int p1, .int p2] h ((rPi h)) (f_X11_coverOf h N p0 p1 p2) := by
  refine CN.of (by decide) rfl (fun hh => by first | rfl | cases hh) (Nat.le_of_ble_eq_true rfl) ?_
  unfold f_X11_coverOf
  refine a_gd (fun hkd => ?_)
  refine a_iconst (v := 0) dX11_coverOf_0 (by decide) ?_
  refine a_istore_n (lc2 := [(3, .int 0), (0, .ref p0), (1, .int p1), (2, .int p2)]) dX11_coverOf_1 rfl (by decide) rfl ?_
  refine a_pick (lc2 := [(0, .ref p0), (1, .int p1), (2, .int p2), (3, .int 0)]) [1, 2, 3, 0] rfl ?_
  exact t_X11_coverOf_b2 h N N p0 p1 p2 0
theorem dX7_isFull_0 : decode cX7_isFull 0 = .ok (.aload_n 0, 1) := by decide +kernel
theorem dX7_isFull_1 : decode cX7_isFull 1 = .ok (.getfield 9, 3) := by decide +kernel
theorem dX7_isFull_4 : decode cX7_isFull 4 = .ok (.aload_n 0, 1) := by decide +kernel
theorem dX7_isFull_5 : decode cX7_isFull 5 = .ok (.getfield 15, 3) := by decide +kernel
theorem dX7_isFull_8 : decode cX7_isFull 8 = .ok (.if_icmp .lt 7, 3) := by decide +kernel
theorem dX7_isFull_11 : decode cX7_isFull 11 = .ok (.iconst 1, 1) := by decide +kernel
theorem dX7_isFull_12 : decode cX7_isFull 12 = .ok (.goto 4, 3) := by decide +kernel
theorem dX7_isFull_15 : decode cX7_isFull 15 = .ok (.iconst 0, 1) := by decide +kernel
theorem dX7_isFull_16 : decode cX7_isFull 16 = .ok (.ireturn, 1) := by decide +kernel
abbrev M_X7_isFull : MI := (RX7, cX7_isFull, 1, (some .boolean), ({ frames := 0, cells := 0, slots := 0, locals := 0 } : Room), 0, 0, false)
def f_X7_isFull (h : AH) (p0 : Nat) : Option Int32 := if kd h p0 = 8 + 1 then (xgi h p0 8 3).bind fun v1 => (xgi h p0 8 0).bind fun v2 => (if v1 < v2 then some 0 else some 1) else none
theorem g_X7_isFull {h : AH} {p0 : Nat} {x : Int32} (e : f_X7_isFull h p0 = some x) : kd h p0 = 8 + 1 := by
  unfold f_X7_isFull at e
  by_cases hk : kd h p0 = 8 + 1
  · exact hk
  · rw [if_neg hk] at e
    cases e
theorem km_X7_isFull : KM yX7_isFull M_X7_isFull 0 := ⟨in_tb 758 (by decide +kernel) rfl, in_tb 7 (by decide +kernel) rfl, by decide +kernel, rfl, rfl⟩
theorem hm_X7_isFull : M_X7_isFull.2.2.2.2.2.1 = 0 ∧ M_X7_isFull.2.2.2.2.2.2.1 = 0 := ⟨rfl, rfl⟩
section
variable {l : Launch} {g : GG}
end
set_option maxRecDepth 100000 in
set_option maxHeartbeats 4000000 in
theorem c_X7_isFull (l : Launch) (g : GG) (h : AH) (p0 : Nat) : CN l g yX7_isFull M_X7_isFull false [.ref p0] h ((rPi h)) (f_X7_isFull h p0) := by
  refine CN.of (by decide) rfl (fun hh => by first | rfl | cases hh) (Nat.le_of_ble_eq_true rfl) ?_
  unfold f_X7_isFull
  refine a_gd (fun hkd => ?_)
  refine a_aload_n dX7_isFull_0 rfl 0 rfl ?_
  refine a_geti kc8 3 dX7_isFull_1 (by decide) rfl w_fieldLink_RainCover_Table_9 (fun v1 => ?_)
  refine a_aload_n dX7_isFull_4 rfl 0 rfl ?_
  refine a_geti kc8 0 dX7_isFull_5 (by decide) rfl w_fieldLink_RainCover_Table_15 (fun v2 => ?_)
  refine a_icmp_lt 15 dX7_isFull_8 (by decide) (fun c3 => ?_) (fun c3 => ?_)
  · refine a_iconst (v := 0) dX7_isFull_15 (by decide) ?_
    exact a_zret dX7_isFull_16 rfl (Or.inl rfl) rfl (by decide) (by decide)
  · refine a_iconst (v := 1) dX7_isFull_11 (by decide) ?_
    refine a_goto 16 dX7_isFull_12 (by decide) ?_
    exact a_zret dX7_isFull_16 rfl (Or.inr rfl) rfl (by decide) (by decide)
theorem dX7_add_0 : decode cX7_add 0 = .ok (.aload_n 0, 1) := by decide +kernel
theorem dX7_add_1 : decode cX7_add 1 = .ok (.getfield 9, 3) := by decide +kernel
theorem dX7_add_4 : decode cX7_add 4 = .ok (.aload_n 0, 1) := by decide +kernel
theorem dX7_add_5 : decode cX7_add 5 = .ok (.getfield 18, 3) := by decide +kernel
theorem dX7_add_8 : decode cX7_add 8 = .ok (.imul, 1) := by decide +kernel
theorem dX7_add_9 : decode cX7_add 9 = .ok (.istore 5, 2) := by decide +kernel
theorem dX7_add_11 : decode cX7_add 11 = .ok (.aload_n 0, 1) := by decide +kernel
theorem dX7_add_12 : decode cX7_add 12 = .ok (.getfield 21, 3) := by decide +kernel
theorem dX7_add_15 : decode cX7_add 15 = .ok (.iload 5, 2) := by decide +kernel
theorem dX7_add_17 : decode cX7_add 17 = .ok (.iload_n 1, 1) := by decide +kernel
theorem dX7_add_18 : decode cX7_add 18 = .ok (.iastore, 1) := by decide +kernel
theorem dX7_add_19 : decode cX7_add 19 = .ok (.aload_n 0, 1) := by decide +kernel
theorem dX7_add_20 : decode cX7_add 20 = .ok (.getfield 21, 3) := by decide +kernel
theorem dX7_add_23 : decode cX7_add 23 = .ok (.iload 5, 2) := by decide +kernel
theorem dX7_add_25 : decode cX7_add 25 = .ok (.iconst 1, 1) := by decide +kernel
theorem dX7_add_26 : decode cX7_add 26 = .ok (.iadd, 1) := by decide +kernel
theorem dX7_add_27 : decode cX7_add 27 = .ok (.iload_n 2, 1) := by decide +kernel
theorem dX7_add_28 : decode cX7_add 28 = .ok (.iastore, 1) := by decide +kernel
theorem dX7_add_29 : decode cX7_add 29 = .ok (.aload_n 0, 1) := by decide +kernel
theorem dX7_add_30 : decode cX7_add 30 = .ok (.getfield 21, 3) := by decide +kernel
theorem dX7_add_33 : decode cX7_add 33 = .ok (.iload 5, 2) := by decide +kernel
theorem dX7_add_35 : decode cX7_add 35 = .ok (.iconst 2, 1) := by decide +kernel
theorem dX7_add_36 : decode cX7_add 36 = .ok (.iadd, 1) := by decide +kernel
theorem dX7_add_37 : decode cX7_add 37 = .ok (.iload_n 3, 1) := by decide +kernel
theorem dX7_add_38 : decode cX7_add 38 = .ok (.iastore, 1) := by decide +kernel
theorem dX7_add_39 : decode cX7_add 39 = .ok (.aload_n 0, 1) := by decide +kernel
theorem dX7_add_40 : decode cX7_add 40 = .ok (.getfield 21, 3) := by decide +kernel
theorem dX7_add_43 : decode cX7_add 43 = .ok (.iload 5, 2) := by decide +kernel
theorem dX7_add_45 : decode cX7_add 45 = .ok (.iconst 3, 1) := by decide +kernel
theorem dX7_add_46 : decode cX7_add 46 = .ok (.iadd, 1) := by decide +kernel
theorem dX7_add_47 : decode cX7_add 47 = .ok (.iload 4, 2) := by decide +kernel
theorem dX7_add_49 : decode cX7_add 49 = .ok (.iastore, 1) := by decide +kernel
theorem dX7_add_50 : decode cX7_add 50 = .ok (.aload_n 0, 1) := by decide +kernel
theorem dX7_add_51 : decode cX7_add 51 = .ok (.dup, 1) := by decide +kernel
theorem dX7_add_52 : decode cX7_add 52 = .ok (.getfield 9, 3) := by decide +kernel
theorem dX7_add_55 : decode cX7_add 55 = .ok (.iconst 1, 1) := by decide +kernel
theorem dX7_add_56 : decode cX7_add 56 = .ok (.iadd, 1) := by decide +kernel
theorem dX7_add_57 : decode cX7_add 57 = .ok (.putfield 9, 3) := by decide +kernel
theorem dX7_add_60 : decode cX7_add 60 = .ok (.aload_n 0, 1) := by decide +kernel
theorem dX7_add_61 : decode cX7_add 61 = .ok (.getfield 9, 3) := by decide +kernel
theorem dX7_add_64 : decode cX7_add 64 = .ok (.iconst 1, 1) := by decide +kernel
theorem dX7_add_65 : decode cX7_add 65 = .ok (.isub, 1) := by decide +kernel
theorem dX7_add_66 : decode cX7_add 66 = .ok (.ireturn, 1) := by decide +kernel
abbrev M_X7_add : MI := (RX7, cX7_add, 6, (some .int), ({ frames := 0, cells := 0, slots := 0, locals := 0 } : Room), 0, 0, false)
def f_X7_add (h0 : AH) (p0 : Nat) (p1 : Int32) (p2 : Int32) (p3 : Int32) (p4 : Int32) : Option (Int32 × AH) := if kd h0 p0 = 8 + 1 then (xgi h0 p0 8 3).bind fun v1 => (xgi h0 p0 8 1).bind fun v2 => (xgr h0 p0 8 2).bind fun v3 => (xis h0 v3 (v1 * v2) p1).bind fun h4 => (xgr h4 p0 8 2).bind fun v5 => (xis h4 v5 ((v1 * v2) + 1) p2).bind fun h6 => (xgr h6 p0 8 2).bind fun v7 => (xis h6 v7 ((v1 * v2) + 2) p3).bind fun h8 => (xgr h8 p0 8 2).bind fun v9 => (xis h8 v9 ((v1 * v2) + 3) p4).bind fun h10 => (xgi h10 p0 8 3).bind fun v11 => (xpi h10 p0 8 3 (v11 + 1)).bind fun h12 => (xgi h12 p0 8 3).bind fun v13 => some ((v13 - 1), h12) else none
theorem g_X7_add {h0 : AH} {p0 : Nat} {p1 : Int32} {p2 : Int32} {p3 : Int32} {p4 : Int32} {x : (Int32 × AH)} (e : f_X7_add h0 p0 p1 p2 p3 p4 = some x) : kd h0 p0 = 8 + 1 := by
  unfold f_X7_add at e
  by_cases hk : kd h0 p0 = 8 + 1
  · exact hk
  · rw [if_neg hk] at e
    cases e
theorem km_X7_add : KM yX7_add M_X7_add 4 := ⟨in_tb 762 (by decide +kernel) rfl, in_tb 7 (by decide +kernel) rfl, by decide +kernel, rfl, rfl⟩
theorem hm_X7_add : M_X7_add.2.2.2.2.2.1 = 0 ∧ M_X7_add.2.2.2.2.2.2.1 = 0 := ⟨rfl, rfl⟩
section
variable {l : Launch} {g : GG}
end
set_option maxRecDepth 100000 in
set_option maxHeartbeats 4000000 in
theorem c_X7_add (l : Launch) (g : GG) (h0 : AH) (p0 : Nat) (p1 : Int32) (p2 : Int32) (p3 : Int32) (p4 : Int32) : CN l g yX7_add M_X7_add false [.ref p0, .int p1, .int p2, .int p3, .int p4] h0 rSi (f_X7_add h0 p0 p1 p2 p3 p4) := by
  refine CN.of (by decide) rfl (fun hh => by first | rfl | cases hh) (Nat.le_of_ble_eq_true rfl) ?_
  unfold f_X7_add
  refine a_gd (fun hkd => ?_)
  refine a_aload_n dX7_add_0 rfl 0 rfl ?_
  refine a_geti kc8 3 dX7_add_1 (by decide) rfl w_fieldLink_RainCover_Table_9 (fun v1 => ?_)
  refine a_aload_n dX7_add_4 rfl 0 rfl ?_
  refine a_geti kc8 1 dX7_add_5 (by decide) rfl w_fieldLink_RainCover_Table_18 (fun v2 => ?_)
  refine a_imul dX7_add_8 ?_
  refine a_istore (lc2 := [(5, .int (v1 * v2)), (0, .ref p0), (1, .int p1), (2, .int p2), (3, .int p3), (4, .int p4)]) dX7_add_9 (by decide) rfl ?_
  refine a_aload_n dX7_add_11 rfl 1 rfl ?_
  refine a_getr kc8 2 dX7_add_12 (by decide) rfl w_fieldLink_RainCover_Table_21 (fun v3 => ?_)
  refine a_iload dX7_add_15 0 rfl ?_
  refine a_iload_n dX7_add_17 rfl 2 rfl ?_
  refine a_iast dX7_add_18 (fun h4 => ?_)
  refine a_aload_n dX7_add_19 rfl 1 rfl ?_
  refine a_getr kc8 2 dX7_add_20 (by decide) rfl w_fieldLink_RainCover_Table_21 (fun v5 => ?_)
  refine a_iload dX7_add_23 0 rfl ?_
  refine a_iconst (v := 1) dX7_add_25 (by decide) ?_
  refine a_iadd dX7_add_26 ?_
  refine a_iload_n dX7_add_27 rfl 3 rfl ?_
  refine a_iast dX7_add_28 (fun h6 => ?_)
  refine a_aload_n dX7_add_29 rfl 1 rfl ?_
  refine a_getr kc8 2 dX7_add_30 (by decide) rfl w_fieldLink_RainCover_Table_21 (fun v7 => ?_)
  refine a_iload dX7_add_33 0 rfl ?_
  refine a_iconst (v := 2) dX7_add_35 (by decide) ?_
  refine a_iadd dX7_add_36 ?_
  refine a_iload_n dX7_add_37 rfl 4 rfl ?_
  refine a_iast dX7_add_38 (fun h8 => ?_)
  refine a_aload_n dX7_add_39 rfl 1 rfl ?_
  refine a_getr kc8 2 dX7_add_40 (by decide) rfl w_fieldLink_RainCover_Table_21 (fun v9 => ?_)
  refine a_iload dX7_add_43 0 rfl ?_
  refine a_iconst (v := 3) dX7_add_45 (by decide) ?_
  refine a_iadd dX7_add_46 ?_
  refine a_iload dX7_add_47 5 rfl ?_
  refine a_iast dX7_add_49 (fun h10 => ?_)
  refine a_aload_n dX7_add_50 rfl 1 rfl ?_
  refine a_dup dX7_add_51 rfl ?_
  refine a_geti kc8 3 dX7_add_52 (by decide) rfl w_fieldLink_RainCover_Table_9 (fun v11 => ?_)
  refine a_iconst (v := 1) dX7_add_55 (by decide) ?_
  refine a_iadd dX7_add_56 ?_
  refine a_puti kc8 3 dX7_add_57 (by decide) rfl w_fieldLink_RainCover_Table_9 rfl rfl (fun h12 => ?_)
  refine a_aload_n dX7_add_60 rfl 1 rfl ?_
  refine a_geti kc8 3 dX7_add_61 (by decide) rfl w_fieldLink_RainCover_Table_9 (fun v13 => ?_)
  refine a_iconst (v := 1) dX7_add_64 (by decide) ?_
  refine a_isub dX7_add_65 ?_
  exact a_iret dX7_add_66 rfl rfl (by decide) (by decide)
theorem dX11_enroll_0 : decode cX11_enroll 0 = .ok (.aload_n 0, 1) := by decide +kernel
theorem dX11_enroll_1 : decode cX11_enroll 1 = .ok (.iload_n 1, 1) := by decide +kernel
theorem dX11_enroll_2 : decode cX11_enroll 2 = .ok (.invokevirtual 254, 3) := by decide +kernel
theorem dX11_enroll_5 : decode cX11_enroll 5 = .ok (.ifCond .eq 18, 3) := by decide +kernel
theorem dX11_enroll_8 : decode cX11_enroll 8 = .ok (.aload_n 0, 1) := by decide +kernel
theorem dX11_enroll_9 : decode cX11_enroll 9 = .ok (.iload_n 2, 1) := by decide +kernel
theorem dX11_enroll_10 : decode cX11_enroll 10 = .ok (.invokevirtual 219, 3) := by decide +kernel
theorem dX11_enroll_13 : decode cX11_enroll 13 = .ok (.ifCond .eq 10, 3) := by decide +kernel
theorem dX11_enroll_16 : decode cX11_enroll 16 = .ok (.iload_n 3, 1) := by decide +kernel
theorem dX11_enroll_17 : decode cX11_enroll 17 = .ok (.invokestatic 100, 3) := by decide +kernel
theorem dX11_enroll_20 : decode cX11_enroll 20 = .ok (.ifCond .ne 5, 3) := by decide +kernel
theorem dX11_enroll_23 : decode cX11_enroll 23 = .ok (.iconst (-1), 1) := by decide +kernel
theorem dX11_enroll_24 : decode cX11_enroll 24 = .ok (.ireturn, 1) := by decide +kernel
theorem dX11_enroll_25 : decode cX11_enroll 25 = .ok (.iload_n 3, 1) := by decide +kernel
theorem dX11_enroll_26 : decode cX11_enroll 26 = .ok (.istore 4, 2) := by decide +kernel
theorem dX11_enroll_28 : decode cX11_enroll 28 = .ok (.iload 4, 2) := by decide +kernel
theorem dX11_enroll_30 : decode cX11_enroll 30 = .ok (.bipush 16, 2) := by decide +kernel
theorem dX11_enroll_32 : decode cX11_enroll 32 = .ok (.if_icmp .ge 23, 3) := by decide +kernel
theorem dX11_enroll_35 : decode cX11_enroll 35 = .ok (.aload_n 0, 1) := by decide +kernel
theorem dX11_enroll_36 : decode cX11_enroll 36 = .ok (.iload_n 1, 1) := by decide +kernel
theorem dX11_enroll_37 : decode cX11_enroll 37 = .ok (.iload 4, 2) := by decide +kernel
theorem dX11_enroll_39 : decode cX11_enroll 39 = .ok (.invokevirtual 257, 3) := by decide +kernel
theorem dX11_enroll_42 : decode cX11_enroll 42 = .ok (.iconst (-1), 1) := by decide +kernel
theorem dX11_enroll_43 : decode cX11_enroll 43 = .ok (.if_icmp .eq 6, 3) := by decide +kernel
theorem dX11_enroll_46 : decode cX11_enroll 46 = .ok (.bipush (-3), 2) := by decide +kernel
theorem dX11_enroll_48 : decode cX11_enroll 48 = .ok (.ireturn, 1) := by decide +kernel
theorem dX11_enroll_49 : decode cX11_enroll 49 = .ok (.iinc 4 1, 3) := by decide +kernel
theorem dX11_enroll_52 : decode cX11_enroll 52 = .ok (.goto (-24), 3) := by decide +kernel
theorem dX11_enroll_55 : decode cX11_enroll 55 = .ok (.aload_n 0, 1) := by decide +kernel
theorem dX11_enroll_56 : decode cX11_enroll 56 = .ok (.getfield 53, 3) := by decide +kernel
theorem dX11_enroll_59 : decode cX11_enroll 59 = .ok (.invokevirtual 261, 3) := by decide +kernel
theorem dX11_enroll_62 : decode cX11_enroll 62 = .ok (.ifCond .eq 6, 3) := by decide +kernel
theorem dX11_enroll_65 : decode cX11_enroll 65 = .ok (.bipush (-4), 2) := by decide +kernel
theorem dX11_enroll_67 : decode cX11_enroll 67 = .ok (.ireturn, 1) := by decide +kernel
theorem dX11_enroll_68 : decode cX11_enroll 68 = .ok (.aload_n 0, 1) := by decide +kernel
theorem dX11_enroll_69 : decode cX11_enroll 69 = .ok (.getfield 53, 3) := by decide +kernel
theorem dX11_enroll_72 : decode cX11_enroll 72 = .ok (.iload_n 1, 1) := by decide +kernel
theorem dX11_enroll_73 : decode cX11_enroll 73 = .ok (.iload_n 3, 1) := by decide +kernel
theorem dX11_enroll_74 : decode cX11_enroll 74 = .ok (.iload_n 2, 1) := by decide +kernel
theorem dX11_enroll_75 : decode cX11_enroll 75 = .ok (.bipush 16, 2) := by decide +kernel
theorem dX11_enroll_77 : decode cX11_enroll 77 = .ok (.invokevirtual 264, 3) := by decide +kernel
theorem dX11_enroll_80 : decode cX11_enroll 80 = .ok (.pop, 1) := by decide +kernel
theorem dX11_enroll_81 : decode cX11_enroll 81 = .ok (.iconst 1, 1) := by decide +kernel
theorem dX11_enroll_82 : decode cX11_enroll 82 = .ok (.ireturn, 1) := by decide +kernel
abbrev M_X11_enroll : MI := (RX11, cX11_enroll, 5, (some .int), ({ frames := 2, cells := 0, slots := 0, locals := 45 } : Room), 0, 0, false)
def f_X11_enroll_b28_body (N : Nat) (K28 : AH → Nat → Int32 → Int32 → Int32 → Int32 → Option (Int32 × AH)) (h : AH) (x0 : Nat) (x1 : Int32) (x2 : Int32) (x3 : Int32) (x4 : Int32) : Option (Int32 × AH) := (if 16 ≤ x4 then (xgr h x0 12 8).bind fun v8 => (f_X7_isFull h v8).bind fun v9 => (if v9 = 0 then (xgr h x0 12 8).bind fun v11 => (f_X7_add h v11 x1 x3 x2 16).bind fun q12 => some (1, q12.2) else some ((-4), h)) else (f_X11_coverOf h N x0 x1 x4).bind fun v13 => (if v13 = (-1) then K28 h x0 x1 x2 x3 (x4 + 1) else some ((-3), h)))
def f_X11_enroll_b28 (N : Nat) : Nat → AH → Nat → Int32 → Int32 → Int32 → Int32 → Option (Int32 × AH)
  | 0, _, _, _, _, _, _ => none
  | n + 1, h, x0, x1, x2, x3, x4 => f_X11_enroll_b28_body N  (f_X11_enroll_b28 N  n) h x0 x1 x2 x3 x4
def f_X11_enroll (h0 : AH) (N : Nat) (p0 : Nat) (p1 : Int32) (p2 : Int32) (p3 : Int32) : Option (Int32 × AH) := if kd h0 p0 = 12 + 1 then (f_X11_isFarm h0 p0 p1).bind fun v1 => (if v1 = 0 then some ((-1), h0) else (f_X11_isTerm h0 p0 p2).bind fun v3 => (if v3 = 0 then some ((-1), h0) else (f_X11_isSeason h0 p3).bind fun v5 => (if v5 = 0 then some ((-1), h0) else f_X11_enroll_b28 N N h0 p0 p1 p2 p3 p3))) else none
theorem g_X11_enroll {h0 : AH} {N : Nat} {p0 : Nat} {p1 : Int32} {p2 : Int32} {p3 : Int32} {x : (Int32 × AH)} (e : f_X11_enroll h0 N p0 p1 p2 p3 = some x) : kd h0 p0 = 12 + 1 := by
  unfold f_X11_enroll at e
  by_cases hk : kd h0 p0 = 12 + 1
  · exact hk
  · rw [if_neg hk] at e
    cases e
theorem km_X11_enroll : KM yX11_enroll M_X11_enroll 3 := ⟨in_tb 742 (by decide +kernel) rfl, in_tb 1 (by decide +kernel) rfl, by decide +kernel, rfl, rfl⟩
theorem hm_X11_enroll : M_X11_enroll.2.2.2.2.2.1 = 0 ∧ M_X11_enroll.2.2.2.2.2.2.1 = 0 := ⟨rfl, rfl⟩
section
variable {l : Launch} {g : GG}
set_option maxRecDepth 100000 in
set_option maxHeartbeats 4000000 in
theorem t_X11_enroll_b28_body (h0 : AH) (N : Nat) (K28 : AH → Nat → Int32 → Int32 → Int32 → Int32 → Option (Int32 × AH)) (hK28 : ∀ (z : AH) (z0 : Nat) (z1 : Int32) (z2 : Int32) (z3 : Int32) (z4 : Int32), AO l g M_X11_enroll false h0 28 [(0, .ref z0), (1, .int z1), (2, .int z2), (3, .int z3), (4, .int z4)] [] z 0 0 rSi (K28 z z0 z1 z2 z3 z4)) (h : AH) (x0 : Nat) (x1 : Int32) (x2 : Int32) (x3 : Int32) (x4 : Int32) : AO l g M_X11_enroll false h0 28 [(0, .ref x0), (1, .int x1), (2, .int x2), (3, .int x3), (4, .int x4)] [] h 0 0 rSi (f_X11_enroll_b28_body N K28 h x0 x1 x2 x3 x4) := by
  unfold f_X11_enroll_b28_body
  refine a_iload dX11_enroll_28 4 rfl ?_
  refine a_bipush (v := 16) dX11_enroll_30 (by decide) ?_
  refine a_icmp_ge 55 dX11_enroll_32 (by decide) (fun c7 => ?_) (fun c7 => ?_)
  · refine a_aload_n dX11_enroll_55 rfl 0 rfl ?_
    refine a_getr kc12 8 dX11_enroll_56 (by decide) rfl w_fieldLink_RainCover_53 (fun v8 => ?_)
    refine a_cV_Pi (r := v8) (ci := 8) (as := []) (st := []) dX11_enroll_59 (c_X7_isFull l g h v8) rfl km_X7_isFull (hm_X7_isFull) rfl (by decide) rfl (fun _ ee => g_X7_isFull ee) w_methodLink_RainCover_261 w_instanceMethod_RainCover_Table_isFull___Z w_selects_RainCover_Table_RainCover_Table_isFull___Z_RainCover_Table_isFull___Z ⟨⟨by decide, by decide⟩, ⟨by decide, by decide⟩⟩ (Nat.le_of_ble_eq_true rfl) (fun v9 => ?_)
    refine a_if_eq 68 dX11_enroll_62 (by decide) (fun c10 => ?_) (fun c10 => ?_)
    · refine a_aload_n dX11_enroll_68 rfl 0 rfl ?_
      refine a_getr kc12 8 dX11_enroll_69 (by decide) rfl w_fieldLink_RainCover_53 (fun v11 => ?_)
      refine a_iload_n dX11_enroll_72 rfl 1 rfl ?_
      refine a_iload_n dX11_enroll_73 rfl 3 rfl ?_
      refine a_iload_n dX11_enroll_74 rfl 2 rfl ?_
      refine a_bipush (v := 16) dX11_enroll_75 (by decide) ?_
      refine a_cV_Si (r := v11) (ci := 8) (as := [.int x1, .int x3, .int x2, .int 16]) (st := []) dX11_enroll_77 (c_X7_add l g h v11 x1 x3 x2 16) rfl km_X7_add (hm_X7_add) rfl (by decide) rfl (fun _ ee => g_X7_add ee) w_methodLink_RainCover_264 w_instanceMethod_RainCover_Table_add__IIII_I w_selects_RainCover_Table_RainCover_Table_add__IIII_I_RainCover_Table_add__IIII_I ⟨⟨by decide, by decide⟩, ⟨by decide, by decide⟩⟩ (Nat.le_of_ble_eq_true rfl) (fun q12 => ?_)
      refine a_pop dX11_enroll_80 rfl ?_
      refine a_iconst (v := 1) dX11_enroll_81 (by decide) ?_
      exact a_iret dX11_enroll_82 rfl rfl (by decide) (by decide)
    · refine a_bipush (v := (-4)) dX11_enroll_65 (by decide) ?_
      exact a_iret dX11_enroll_67 rfl rfl (by decide) (by decide)
  · refine a_aload_n dX11_enroll_35 rfl 0 rfl ?_
    refine a_iload_n dX11_enroll_36 rfl 1 rfl ?_
    refine a_iload dX11_enroll_37 4 rfl ?_
    refine a_cV_Pi (r := x0) (ci := 12) (as := [.int x1, .int x4]) (st := []) dX11_enroll_39 (c_X11_coverOf l g h N x0 x1 x4) rfl km_X11_coverOf (hm_X11_coverOf) rfl (by decide) rfl (fun _ ee => g_X11_coverOf ee) w_methodLink_RainCover_257 w_instanceMethod_RainCover_coverOf__II_I w_selects_RainCover_RainCover_coverOf__II_I_RainCover_coverOf__II_I ⟨⟨by decide, by decide⟩, ⟨by decide, by decide⟩⟩ (Nat.le_of_ble_eq_true rfl) (fun v13 => ?_)
    refine a_iconst (v := (-1)) dX11_enroll_42 (by decide) ?_
    refine a_icmp_eq 49 dX11_enroll_43 (by decide) (fun c14 => ?_) (fun c14 => ?_)
    · refine a_iinc (q := 4) (v := (x4 + 1)) (lc2 := [(4, .int (x4 + 1)), (0, .ref x0), (1, .int x1), (2, .int x2), (3, .int x3)]) dX11_enroll_49 rfl rfl (by decide) rfl ?_
      refine a_goto 28 dX11_enroll_52 (by decide) ?_
      refine a_pick (lc2 := [(0, .ref x0), (1, .int x1), (2, .int x2), (3, .int x3), (4, .int (x4 + 1))]) [1, 2, 3, 4, 0] rfl ?_
      exact hK28 h x0 x1 x2 x3 (x4 + 1)
    · refine a_bipush (v := (-3)) dX11_enroll_46 (by decide) ?_
      exact a_iret dX11_enroll_48 rfl rfl (by decide) (by decide)
set_option maxRecDepth 100000 in
set_option maxHeartbeats 4000000 in
theorem t_X11_enroll_b28 (h0 : AH) (N : Nat) : ∀ (n : Nat) (h : AH) (x0 : Nat) (x1 : Int32) (x2 : Int32) (x3 : Int32) (x4 : Int32) , AO l g M_X11_enroll false h0 28 [(0, .ref x0), (1, .int x1), (2, .int x2), (3, .int x3), (4, .int x4)] [] h 0 0 rSi (f_X11_enroll_b28 N  n h x0 x1 x2 x3 x4) := by
  intro n
  induction n with
  | zero => intro h x0 x1 x2 x3 x4; exact a_eq rfl a_none
  | succ n ih => intro h x0 x1 x2 x3 x4; exact a_eq rfl (t_X11_enroll_b28_body h0 N  (f_X11_enroll_b28 N  n) ih h x0 x1 x2 x3 x4)
end
set_option maxRecDepth 100000 in
set_option maxHeartbeats 4000000 in
theorem c_X11_enroll (l : Launch) (g : GG) (h0 : AH) (N : Nat) (p0 : Nat) (p1 : Int32) (p2 : Int32) (p3 : Int32) : CN l g yX11_enroll M_X11_enroll false [.ref p0, .int p1, .int p2, .int p3] h0 rSi (f_X11_enroll h0 N p0 p1 p2 p3) := by
  refine CN.of (by decide) rfl (fun hh => by first | rfl | cases hh) (Nat.le_of_ble_eq_true rfl) ?_
  unfold f_X11_enroll
  refine a_gd (fun hkd => ?_)
  refine a_aload_n dX11_enroll_0 rfl 0 rfl ?_
  refine a_iload_n dX11_enroll_1 rfl 1 rfl ?_
  refine a_cV_Pi (r := p0) (ci := 12) (as := [.int p1]) (st := []) dX11_enroll_2 (c_X11_isFarm l g h0 p0 p1) rfl km_X11_isFarm (hm_X11_isFarm) rfl (by decide) rfl (fun _ ee => g_X11_isFarm ee) w_methodLink_RainCover_254 w_instanceMethod_RainCover_isFarm__I_Z w_selects_RainCover_RainCover_isFarm__I_Z_RainCover_isFarm__I_Z ⟨⟨by decide, by decide⟩, ⟨by decide, by decide⟩⟩ (Nat.le_of_ble_eq_true rfl) (fun v1 => ?_)
  refine a_if_eq 23 dX11_enroll_5 (by decide) (fun c2 => ?_) (fun c2 => ?_)
  · refine a_iconst (v := (-1)) dX11_enroll_23 (by decide) ?_
    exact a_iret dX11_enroll_24 rfl rfl (by decide) (by decide)
  · refine a_aload_n dX11_enroll_8 rfl 0 rfl ?_
    refine a_iload_n dX11_enroll_9 rfl 2 rfl ?_
    refine a_cV_Pi (r := p0) (ci := 12) (as := [.int p2]) (st := []) dX11_enroll_10 (c_X11_isTerm l g h0 p0 p2) rfl km_X11_isTerm (hm_X11_isTerm) rfl (by decide) rfl (fun _ ee => g_X11_isTerm ee) w_methodLink_RainCover_219 w_instanceMethod_RainCover_isTerm__I_Z w_selects_RainCover_RainCover_isTerm__I_Z_RainCover_isTerm__I_Z ⟨⟨by decide, by decide⟩, ⟨by decide, by decide⟩⟩ (Nat.le_of_ble_eq_true rfl) (fun v3 => ?_)
    refine a_if_eq 23 dX11_enroll_13 (by decide) (fun c4 => ?_) (fun c4 => ?_)
    · refine a_iconst (v := (-1)) dX11_enroll_23 (by decide) ?_
      exact a_iret dX11_enroll_24 rfl rfl (by decide) (by decide)
    · refine a_iload_n dX11_enroll_16 rfl 3 rfl ?_
      refine a_cS_Pi (as := [.int p3]) (st := []) dX11_enroll_17 (c_X11_isSeason l g h0 p3) rfl km_X11_isSeason (hm_X11_isSeason) w_methodLink_RainCover_100 w_static_RainCover_isSeason__I_Z ⟨⟨by decide, by decide⟩, ⟨by decide, by decide⟩⟩ (Nat.le_of_ble_eq_true rfl) (fun v5 => ?_)
      refine a_if_ne 25 dX11_enroll_20 (by decide) (fun c6 => ?_) (fun c6 => ?_)
      · refine a_iconst (v := (-1)) dX11_enroll_23 (by decide) ?_
        exact a_iret dX11_enroll_24 rfl rfl (by decide) (by decide)
      · refine a_iload_n dX11_enroll_25 rfl 3 rfl ?_
        refine a_istore (lc2 := [(4, .int p3), (0, .ref p0), (1, .int p1), (2, .int p2), (3, .int p3)]) dX11_enroll_26 (by decide) rfl ?_
        refine a_pick (lc2 := [(0, .ref p0), (1, .int p1), (2, .int p2), (3, .int p3), (4, .int p3)]) [1, 2, 3, 4, 0] rfl ?_
        exact t_X11_enroll_b28 h0 N N h0 p0 p1 p2 p3 p3
theorem dX7_put_0 : decode cX7_put 0 = .ok (.aload_n 0, 1) := by decide +kernel
theorem dX7_put_1 : decode cX7_put 1 = .ok (.getfield 21, 3) := by decide +kernel
theorem dX7_put_4 : decode cX7_put 4 = .ok (.iload_n 1, 1) := by decide +kernel
theorem dX7_put_5 : decode cX7_put 5 = .ok (.aload_n 0, 1) := by decide +kernel
theorem dX7_put_6 : decode cX7_put 6 = .ok (.getfield 18, 3) := by decide +kernel
theorem dX7_put_9 : decode cX7_put 9 = .ok (.imul, 1) := by decide +kernel
theorem dX7_put_10 : decode cX7_put 10 = .ok (.iload_n 2, 1) := by decide +kernel
theorem dX7_put_11 : decode cX7_put 11 = .ok (.iadd, 1) := by decide +kernel
theorem dX7_put_12 : decode cX7_put 12 = .ok (.iload_n 3, 1) := by decide +kernel
theorem dX7_put_13 : decode cX7_put 13 = .ok (.iastore, 1) := by decide +kernel
theorem dX7_put_14 : decode cX7_put 14 = .ok (.return_, 1) := by decide +kernel
abbrev M_X7_put : MI := (RX7, cX7_put, 4, none, ({ frames := 0, cells := 0, slots := 0, locals := 0 } : Room), 0, 0, false)
def f_X7_put (h0 : AH) (p0 : Nat) (p1 : Int32) (p2 : Int32) (p3 : Int32) : Option AH := if kd h0 p0 = 8 + 1 then (xgr h0 p0 8 2).bind fun v1 => (xgi h0 p0 8 1).bind fun v2 => (xis h0 v1 ((p1 * v2) + p2) p3).bind fun h3 => some h3 else none
theorem g_X7_put {h0 : AH} {p0 : Nat} {p1 : Int32} {p2 : Int32} {p3 : Int32} {x : AH} (e : f_X7_put h0 p0 p1 p2 p3 = some x) : kd h0 p0 = 8 + 1 := by
  unfold f_X7_put at e
  by_cases hk : kd h0 p0 = 8 + 1
  · exact hk
  · rw [if_neg hk] at e
    cases e
theorem km_X7_put : KM yX7_put M_X7_put 3 := ⟨in_tb 770 (by decide +kernel) rfl, in_tb 7 (by decide +kernel) rfl, by decide +kernel, rfl, rfl⟩
theorem hm_X7_put : M_X7_put.2.2.2.2.2.1 = 0 ∧ M_X7_put.2.2.2.2.2.2.1 = 0 := ⟨rfl, rfl⟩
section
variable {l : Launch} {g : GG}
end
set_option maxRecDepth 100000 in
set_option maxHeartbeats 4000000 in
theorem c_X7_put (l : Launch) (g : GG) (h0 : AH) (p0 : Nat) (p1 : Int32) (p2 : Int32) (p3 : Int32) : CN l g yX7_put M_X7_put false [.ref p0, .int p1, .int p2, .int p3] h0 rSv (f_X7_put h0 p0 p1 p2 p3) := by
  refine CN.of (by decide) rfl (fun hh => by first | rfl | cases hh) (Nat.le_of_ble_eq_true rfl) ?_
  unfold f_X7_put
  refine a_gd (fun hkd => ?_)
  refine a_aload_n dX7_put_0 rfl 0 rfl ?_
  refine a_getr kc8 2 dX7_put_1 (by decide) rfl w_fieldLink_RainCover_Table_21 (fun v1 => ?_)
  refine a_iload_n dX7_put_4 rfl 1 rfl ?_
  refine a_aload_n dX7_put_5 rfl 0 rfl ?_
  refine a_geti kc8 1 dX7_put_6 (by decide) rfl w_fieldLink_RainCover_Table_18 (fun v2 => ?_)
  refine a_imul dX7_put_9 ?_
  refine a_iload_n dX7_put_10 rfl 2 rfl ?_
  refine a_iadd dX7_put_11 ?_
  refine a_iload_n dX7_put_12 rfl 3 rfl ?_
  refine a_iast dX7_put_13 (fun h3 => ?_)
  exact a_vret dX7_put_14 rfl rfl (by decide) (by decide)
theorem dX11_lapse_0 : decode cX11_lapse 0 = .ok (.aload_n 0, 1) := by decide +kernel
theorem dX11_lapse_1 : decode cX11_lapse 1 = .ok (.iload_n 1, 1) := by decide +kernel
theorem dX11_lapse_2 : decode cX11_lapse 2 = .ok (.invokevirtual 254, 3) := by decide +kernel
theorem dX11_lapse_5 : decode cX11_lapse 5 = .ok (.ifCond .eq 10, 3) := by decide +kernel
theorem dX11_lapse_8 : decode cX11_lapse 8 = .ok (.iload_n 2, 1) := by decide +kernel
theorem dX11_lapse_9 : decode cX11_lapse 9 = .ok (.invokestatic 100, 3) := by decide +kernel
theorem dX11_lapse_12 : decode cX11_lapse 12 = .ok (.ifCond .ne 5, 3) := by decide +kernel
theorem dX11_lapse_15 : decode cX11_lapse 15 = .ok (.iconst (-1), 1) := by decide +kernel
theorem dX11_lapse_16 : decode cX11_lapse 16 = .ok (.ireturn, 1) := by decide +kernel
theorem dX11_lapse_17 : decode cX11_lapse 17 = .ok (.aload_n 0, 1) := by decide +kernel
theorem dX11_lapse_18 : decode cX11_lapse 18 = .ok (.iload_n 1, 1) := by decide +kernel
theorem dX11_lapse_19 : decode cX11_lapse 19 = .ok (.iload_n 2, 1) := by decide +kernel
theorem dX11_lapse_20 : decode cX11_lapse 20 = .ok (.invokevirtual 257, 3) := by decide +kernel
theorem dX11_lapse_23 : decode cX11_lapse 23 = .ok (.istore_n 3, 1) := by decide +kernel
theorem dX11_lapse_24 : decode cX11_lapse 24 = .ok (.iload_n 3, 1) := by decide +kernel
theorem dX11_lapse_25 : decode cX11_lapse 25 = .ok (.iconst (-1), 1) := by decide +kernel
theorem dX11_lapse_26 : decode cX11_lapse 26 = .ok (.if_icmp .ne 6, 3) := by decide +kernel
theorem dX11_lapse_29 : decode cX11_lapse 29 = .ok (.bipush (-3), 2) := by decide +kernel
theorem dX11_lapse_31 : decode cX11_lapse 31 = .ok (.ireturn, 1) := by decide +kernel
theorem dX11_lapse_32 : decode cX11_lapse 32 = .ok (.aload_n 0, 1) := by decide +kernel
theorem dX11_lapse_33 : decode cX11_lapse 33 = .ok (.getfield 53, 3) := by decide +kernel
theorem dX11_lapse_36 : decode cX11_lapse 36 = .ok (.iload_n 3, 1) := by decide +kernel
theorem dX11_lapse_37 : decode cX11_lapse 37 = .ok (.iconst 3, 1) := by decide +kernel
theorem dX11_lapse_38 : decode cX11_lapse 38 = .ok (.invokevirtual 266, 3) := by decide +kernel
theorem dX11_lapse_41 : decode cX11_lapse 41 = .ok (.istore 4, 2) := by decide +kernel
theorem dX11_lapse_43 : decode cX11_lapse 43 = .ok (.aload_n 0, 1) := by decide +kernel
theorem dX11_lapse_44 : decode cX11_lapse 44 = .ok (.getfield 53, 3) := by decide +kernel
theorem dX11_lapse_47 : decode cX11_lapse 47 = .ok (.iload_n 3, 1) := by decide +kernel
theorem dX11_lapse_48 : decode cX11_lapse 48 = .ok (.iconst 3, 1) := by decide +kernel
theorem dX11_lapse_49 : decode cX11_lapse 49 = .ok (.iload_n 2, 1) := by decide +kernel
theorem dX11_lapse_50 : decode cX11_lapse 50 = .ok (.invokevirtual 269, 3) := by decide +kernel
theorem dX11_lapse_53 : decode cX11_lapse 53 = .ok (.iload 4, 2) := by decide +kernel
theorem dX11_lapse_55 : decode cX11_lapse 55 = .ok (.iload_n 2, 1) := by decide +kernel
theorem dX11_lapse_56 : decode cX11_lapse 56 = .ok (.isub, 1) := by decide +kernel
theorem dX11_lapse_57 : decode cX11_lapse 57 = .ok (.ireturn, 1) := by decide +kernel
abbrev M_X11_lapse : MI := (RX11, cX11_lapse, 5, (some .int), ({ frames := 2, cells := 0, slots := 0, locals := 45 } : Room), 0, 0, false)
def f_X11_lapse (h0 : AH) (N : Nat) (p0 : Nat) (p1 : Int32) (p2 : Int32) : Option (Int32 × AH) := if kd h0 p0 = 12 + 1 then (f_X11_isFarm h0 p0 p1).bind fun v1 => (if v1 = 0 then some ((-1), h0) else (f_X11_isSeason h0 p2).bind fun v3 => (if v3 = 0 then some ((-1), h0) else (f_X11_coverOf h0 N p0 p1 p2).bind fun v5 => (if v5 = (-1) then some ((-3), h0) else (xgr h0 p0 12 8).bind fun v7 => (f_X7_at h0 v7 v5 3).bind fun v8 => (xgr h0 p0 12 8).bind fun v9 => (f_X7_put h0 v9 v5 3 p2).bind fun q10 => some ((v8 - p2), q10)))) else none
theorem g_X11_lapse {h0 : AH} {N : Nat} {p0 : Nat} {p1 : Int32} {p2 : Int32} {x : (Int32 × AH)} (e : f_X11_lapse h0 N p0 p1 p2 = some x) : kd h0 p0 = 12 + 1 := by
  unfold f_X11_lapse at e
  by_cases hk : kd h0 p0 = 12 + 1
  · exact hk
  · rw [if_neg hk] at e
    cases e
theorem km_X11_lapse : KM yX11_lapse M_X11_lapse 2 := ⟨in_tb 766 (by decide +kernel) rfl, in_tb 1 (by decide +kernel) rfl, by decide +kernel, rfl, rfl⟩
theorem hm_X11_lapse : M_X11_lapse.2.2.2.2.2.1 = 0 ∧ M_X11_lapse.2.2.2.2.2.2.1 = 0 := ⟨rfl, rfl⟩
section
variable {l : Launch} {g : GG}
end
set_option maxRecDepth 100000 in
set_option maxHeartbeats 4000000 in
theorem c_X11_lapse (l : Launch) (g : GG) (h0 : AH) (N : Nat) (p0 : Nat) (p1 : Int32) (p2 : Int32) : CN l g yX11_lapse M_X11_lapse false [.ref p0, .int p1, .int p2] h0 rSi (f_X11_lapse h0 N p0 p1 p2) := by
  refine CN.of (by decide) rfl (fun hh => by first | rfl | cases hh) (Nat.le_of_ble_eq_true rfl) ?_
  unfold f_X11_lapse
  refine a_gd (fun hkd => ?_)
  refine a_aload_n dX11_lapse_0 rfl 0 rfl ?_
  refine a_iload_n dX11_lapse_1 rfl 1 rfl ?_
  refine a_cV_Pi (r := p0) (ci := 12) (as := [.int p1]) (st := []) dX11_lapse_2 (c_X11_isFarm l g h0 p0 p1) rfl km_X11_isFarm (hm_X11_isFarm) rfl (by decide) rfl (fun _ ee => g_X11_isFarm ee) w_methodLink_RainCover_254 w_instanceMethod_RainCover_isFarm__I_Z w_selects_RainCover_RainCover_isFarm__I_Z_RainCover_isFarm__I_Z ⟨⟨by decide, by decide⟩, ⟨by decide, by decide⟩⟩ (Nat.le_of_ble_eq_true rfl) (fun v1 => ?_)
  refine a_if_eq 15 dX11_lapse_5 (by decide) (fun c2 => ?_) (fun c2 => ?_)
  · refine a_iconst (v := (-1)) dX11_lapse_15 (by decide) ?_
    exact a_iret dX11_lapse_16 rfl rfl (by decide) (by decide)
  · refine a_iload_n dX11_lapse_8 rfl 2 rfl ?_
    refine a_cS_Pi (as := [.int p2]) (st := []) dX11_lapse_9 (c_X11_isSeason l g h0 p2) rfl km_X11_isSeason (hm_X11_isSeason) w_methodLink_RainCover_100 w_static_RainCover_isSeason__I_Z ⟨⟨by decide, by decide⟩, ⟨by decide, by decide⟩⟩ (Nat.le_of_ble_eq_true rfl) (fun v3 => ?_)
    refine a_if_ne 17 dX11_lapse_12 (by decide) (fun c4 => ?_) (fun c4 => ?_)
    · refine a_iconst (v := (-1)) dX11_lapse_15 (by decide) ?_
      exact a_iret dX11_lapse_16 rfl rfl (by decide) (by decide)
    · refine a_aload_n dX11_lapse_17 rfl 0 rfl ?_
      refine a_iload_n dX11_lapse_18 rfl 1 rfl ?_
      refine a_iload_n dX11_lapse_19 rfl 2 rfl ?_
      refine a_cV_Pi (r := p0) (ci := 12) (as := [.int p1, .int p2]) (st := []) dX11_lapse_20 (c_X11_coverOf l g h0 N p0 p1 p2) rfl km_X11_coverOf (hm_X11_coverOf) rfl (by decide) rfl (fun _ ee => g_X11_coverOf ee) w_methodLink_RainCover_257 w_instanceMethod_RainCover_coverOf__II_I w_selects_RainCover_RainCover_coverOf__II_I_RainCover_coverOf__II_I ⟨⟨by decide, by decide⟩, ⟨by decide, by decide⟩⟩ (Nat.le_of_ble_eq_true rfl) (fun v5 => ?_)
      refine a_istore_n (lc2 := [(3, .int v5), (0, .ref p0), (1, .int p1), (2, .int p2)]) dX11_lapse_23 rfl (by decide) rfl ?_
      refine a_iload_n dX11_lapse_24 rfl 0 rfl ?_
      refine a_iconst (v := (-1)) dX11_lapse_25 (by decide) ?_
      refine a_icmp_ne 32 dX11_lapse_26 (by decide) (fun c6 => ?_) (fun c6 => ?_)
      · refine a_bipush (v := (-3)) dX11_lapse_29 (by decide) ?_
        exact a_iret dX11_lapse_31 rfl rfl (by decide) (by decide)
      · refine a_aload_n dX11_lapse_32 rfl 1 rfl ?_
        refine a_getr kc12 8 dX11_lapse_33 (by decide) rfl w_fieldLink_RainCover_53 (fun v7 => ?_)
        refine a_iload_n dX11_lapse_36 rfl 0 rfl ?_
        refine a_iconst (v := 3) dX11_lapse_37 (by decide) ?_
        refine a_cV_Pi (r := v7) (ci := 8) (as := [.int v5, .int 3]) (st := []) dX11_lapse_38 (c_X7_at l g h0 v7 v5 3) rfl km_X7_at (hm_X7_at) rfl (by decide) rfl (fun _ ee => g_X7_at ee) w_methodLink_RainCover_266 w_instanceMethod_RainCover_Table_at__II_I w_selects_RainCover_Table_RainCover_Table_at__II_I_RainCover_Table_at__II_I ⟨⟨by decide, by decide⟩, ⟨by decide, by decide⟩⟩ (Nat.le_of_ble_eq_true rfl) (fun v8 => ?_)
        refine a_istore (lc2 := [(4, .int v8), (3, .int v5), (0, .ref p0), (1, .int p1), (2, .int p2)]) dX11_lapse_41 (by decide) rfl ?_
        refine a_aload_n dX11_lapse_43 rfl 2 rfl ?_
        refine a_getr kc12 8 dX11_lapse_44 (by decide) rfl w_fieldLink_RainCover_53 (fun v9 => ?_)
        refine a_iload_n dX11_lapse_47 rfl 1 rfl ?_
        refine a_iconst (v := 3) dX11_lapse_48 (by decide) ?_
        refine a_iload_n dX11_lapse_49 rfl 4 rfl ?_
        refine a_cV_Sv (r := v9) (ci := 8) (as := [.int v5, .int 3, .int p2]) (st := []) dX11_lapse_50 (c_X7_put l g h0 v9 v5 3 p2) rfl km_X7_put (hm_X7_put) rfl (by decide) rfl (fun _ ee => g_X7_put ee) w_methodLink_RainCover_269 w_instanceMethod_RainCover_Table_put__III_V w_selects_RainCover_Table_RainCover_Table_put__III_V_RainCover_Table_put__III_V ⟨⟨by decide, by decide⟩, ⟨by decide, by decide⟩⟩ (Nat.le_of_ble_eq_true rfl) (fun q10 => ?_)
        refine a_iload dX11_lapse_53 0 rfl ?_
        refine a_iload_n dX11_lapse_55 rfl 4 rfl ?_
        refine a_isub dX11_lapse_56 ?_
        exact a_iret dX11_lapse_57 rfl rfl (by decide) (by decide)
theorem dX3_standsIn_0 : decode cX3_standsIn 0 = .ok (.aload_n 0, 1) := by decide +kernel
theorem dX3_standsIn_1 : decode cX3_standsIn 1 = .ok (.getfield 21, 3) := by decide +kernel
theorem dX3_standsIn_4 : decode cX3_standsIn 4 = .ok (.iload_n 1, 1) := by decide +kernel
theorem dX3_standsIn_5 : decode cX3_standsIn 5 = .ok (.if_icmp .gt 15, 3) := by decide +kernel
theorem dX3_standsIn_8 : decode cX3_standsIn 8 = .ok (.iload_n 1, 1) := by decide +kernel
theorem dX3_standsIn_9 : decode cX3_standsIn 9 = .ok (.aload_n 0, 1) := by decide +kernel
theorem dX3_standsIn_10 : decode cX3_standsIn 10 = .ok (.getfield 9, 3) := by decide +kernel
theorem dX3_standsIn_13 : decode cX3_standsIn 13 = .ok (.if_icmp .ge 7, 3) := by decide +kernel
theorem dX3_standsIn_16 : decode cX3_standsIn 16 = .ok (.iconst 1, 1) := by decide +kernel
theorem dX3_standsIn_17 : decode cX3_standsIn 17 = .ok (.goto 4, 3) := by decide +kernel
theorem dX3_standsIn_20 : decode cX3_standsIn 20 = .ok (.iconst 0, 1) := by decide +kernel
theorem dX3_standsIn_21 : decode cX3_standsIn 21 = .ok (.ireturn, 1) := by decide +kernel
abbrev M_X3_standsIn : MI := (RX3, cX3_standsIn, 2, (some .boolean), ({ frames := 0, cells := 0, slots := 0, locals := 0 } : Room), 0, 0, false)
def f_X3_standsIn (h : AH) (p0 : Nat) (p1 : Int32) : Option Int32 := if kd h p0 = 4 + 1 then (xgi h p0 4 2).bind fun v1 => (if p1 < v1 then some 0 else (xgi h p0 4 3).bind fun v3 => (if v3 ≤ p1 then some 0 else some 1)) else none
theorem g_X3_standsIn {h : AH} {p0 : Nat} {p1 : Int32} {x : Int32} (e : f_X3_standsIn h p0 p1 = some x) : kd h p0 = 4 + 1 := by
  unfold f_X3_standsIn at e
  by_cases hk : kd h p0 = 4 + 1
  · exact hk
  · rw [if_neg hk] at e
    cases e
theorem km_X3_standsIn : KM yX3_standsIn M_X3_standsIn 1 := ⟨in_tb 782 (by decide +kernel) rfl, in_tb 10 (by decide +kernel) rfl, by decide +kernel, rfl, rfl⟩
theorem hm_X3_standsIn : M_X3_standsIn.2.2.2.2.2.1 = 0 ∧ M_X3_standsIn.2.2.2.2.2.2.1 = 0 := ⟨rfl, rfl⟩
section
variable {l : Launch} {g : GG}
end
set_option maxRecDepth 100000 in
set_option maxHeartbeats 4000000 in
theorem c_X3_standsIn (l : Launch) (g : GG) (h : AH) (p0 : Nat) (p1 : Int32) : CN l g yX3_standsIn M_X3_standsIn false [.ref p0, .int p1] h ((rPi h)) (f_X3_standsIn h p0 p1) := by
  refine CN.of (by decide) rfl (fun hh => by first | rfl | cases hh) (Nat.le_of_ble_eq_true rfl) ?_
  unfold f_X3_standsIn
  refine a_gd (fun hkd => ?_)
  refine a_aload_n dX3_standsIn_0 rfl 0 rfl ?_
  refine a_geti kc4 2 dX3_standsIn_1 (by decide) rfl w_fieldLink_RainCover_Gauge_21 (fun v1 => ?_)
  refine a_iload_n dX3_standsIn_4 rfl 1 rfl ?_
  refine a_icmp_gt 20 dX3_standsIn_5 (by decide) (fun c2 => ?_) (fun c2 => ?_)
  · refine a_iconst (v := 0) dX3_standsIn_20 (by decide) ?_
    exact a_zret dX3_standsIn_21 rfl (Or.inl rfl) rfl (by decide) (by decide)
  · refine a_iload_n dX3_standsIn_8 rfl 1 rfl ?_
    refine a_aload_n dX3_standsIn_9 rfl 0 rfl ?_
    refine a_geti kc4 3 dX3_standsIn_10 (by decide) rfl w_fieldLink_RainCover_Gauge_9 (fun v3 => ?_)
    refine a_icmp_ge 20 dX3_standsIn_13 (by decide) (fun c4 => ?_) (fun c4 => ?_)
    · refine a_iconst (v := 0) dX3_standsIn_20 (by decide) ?_
      exact a_zret dX3_standsIn_21 rfl (Or.inl rfl) rfl (by decide) (by decide)
    · refine a_iconst (v := 1) dX3_standsIn_16 (by decide) ?_
      refine a_goto 21 dX3_standsIn_17 (by decide) ?_
      exact a_zret dX3_standsIn_21 rfl (Or.inr rfl) rfl (by decide) (by decide)
theorem dX11_gaugeOf_0 : decode cX11_gaugeOf 0 = .ok (.iconst (-1), 1) := by decide +kernel
theorem dX11_gaugeOf_1 : decode cX11_gaugeOf 1 = .ok (.istore_n 3, 1) := by decide +kernel
theorem dX11_gaugeOf_2 : decode cX11_gaugeOf 2 = .ok (.sipush 199, 3) := by decide +kernel
theorem dX11_gaugeOf_5 : decode cX11_gaugeOf 5 = .ok (.istore 4, 2) := by decide +kernel
theorem dX11_gaugeOf_7 : decode cX11_gaugeOf 7 = .ok (.iconst 0, 1) := by decide +kernel
theorem dX11_gaugeOf_8 : decode cX11_gaugeOf 8 = .ok (.istore 5, 2) := by decide +kernel
theorem dX11_gaugeOf_10 : decode cX11_gaugeOf 10 = .ok (.iload 5, 2) := by decide +kernel
theorem dX11_gaugeOf_12 : decode cX11_gaugeOf 12 = .ok (.aload_n 0, 1) := by decide +kernel
theorem dX11_gaugeOf_13 : decode cX11_gaugeOf 13 = .ok (.getfield 12, 3) := by decide +kernel
theorem dX11_gaugeOf_16 : decode cX11_gaugeOf 16 = .ok (.invokevirtual 104, 3) := by decide +kernel
theorem dX11_gaugeOf_19 : decode cX11_gaugeOf 19 = .ok (.if_icmp .ge 69, 3) := by decide +kernel
theorem dX11_gaugeOf_22 : decode cX11_gaugeOf 22 = .ok (.aload_n 0, 1) := by decide +kernel
theorem dX11_gaugeOf_23 : decode cX11_gaugeOf 23 = .ok (.getfield 12, 3) := by decide +kernel
theorem dX11_gaugeOf_26 : decode cX11_gaugeOf 26 = .ok (.iload 5, 2) := by decide +kernel
theorem dX11_gaugeOf_28 : decode cX11_gaugeOf 28 = .ok (.invokevirtual 124, 3) := by decide +kernel
theorem dX11_gaugeOf_31 : decode cX11_gaugeOf 31 = .ok (.checkcast 108, 3) := by decide +kernel
theorem dX11_gaugeOf_34 : decode cX11_gaugeOf 34 = .ok (.astore 6, 2) := by decide +kernel
theorem dX11_gaugeOf_36 : decode cX11_gaugeOf 36 = .ok (.aload_n 1, 1) := by decide +kernel
theorem dX11_gaugeOf_37 : decode cX11_gaugeOf 37 = .ok (.getfield 304, 3) := by decide +kernel
theorem dX11_gaugeOf_40 : decode cX11_gaugeOf 40 = .ok (.aload_n 1, 1) := by decide +kernel
theorem dX11_gaugeOf_41 : decode cX11_gaugeOf 41 = .ok (.getfield 305, 3) := by decide +kernel
theorem dX11_gaugeOf_44 : decode cX11_gaugeOf 44 = .ok (.aload 6, 2) := by decide +kernel
theorem dX11_gaugeOf_46 : decode cX11_gaugeOf 46 = .ok (.getfield 182, 3) := by decide +kernel
theorem dX11_gaugeOf_49 : decode cX11_gaugeOf 49 = .ok (.aload 6, 2) := by decide +kernel
theorem dX11_gaugeOf_51 : decode cX11_gaugeOf 51 = .ok (.getfield 185, 3) := by decide +kernel
theorem dX11_gaugeOf_54 : decode cX11_gaugeOf 54 = .ok (.invokestatic 188, 3) := by decide +kernel
theorem dX11_gaugeOf_57 : decode cX11_gaugeOf 57 = .ok (.istore 7, 2) := by decide +kernel
theorem dX11_gaugeOf_59 : decode cX11_gaugeOf 59 = .ok (.aload 6, 2) := by decide +kernel
theorem dX11_gaugeOf_61 : decode cX11_gaugeOf 61 = .ok (.iload_n 2, 1) := by decide +kernel
theorem dX11_gaugeOf_62 : decode cX11_gaugeOf 62 = .ok (.invokevirtual 309, 3) := by decide +kernel
theorem dX11_gaugeOf_65 : decode cX11_gaugeOf 65 = .ok (.ifCond .eq 17, 3) := by decide +kernel
theorem dX11_gaugeOf_68 : decode cX11_gaugeOf 68 = .ok (.iload 7, 2) := by decide +kernel
theorem dX11_gaugeOf_70 : decode cX11_gaugeOf 70 = .ok (.iload 4, 2) := by decide +kernel
theorem dX11_gaugeOf_72 : decode cX11_gaugeOf 72 = .ok (.if_icmp .ge 10, 3) := by decide +kernel
theorem dX11_gaugeOf_75 : decode cX11_gaugeOf 75 = .ok (.iload 7, 2) := by decide +kernel
theorem dX11_gaugeOf_77 : decode cX11_gaugeOf 77 = .ok (.istore 4, 2) := by decide +kernel
theorem dX11_gaugeOf_79 : decode cX11_gaugeOf 79 = .ok (.iload 5, 2) := by decide +kernel
theorem dX11_gaugeOf_81 : decode cX11_gaugeOf 81 = .ok (.istore_n 3, 1) := by decide +kernel
theorem dX11_gaugeOf_82 : decode cX11_gaugeOf 82 = .ok (.iinc 5 1, 3) := by decide +kernel
theorem dX11_gaugeOf_85 : decode cX11_gaugeOf 85 = .ok (.goto (-75), 3) := by decide +kernel
theorem dX11_gaugeOf_88 : decode cX11_gaugeOf 88 = .ok (.iload_n 3, 1) := by decide +kernel
theorem dX11_gaugeOf_89 : decode cX11_gaugeOf 89 = .ok (.ireturn, 1) := by decide +kernel
abbrev M_X11_gaugeOf : MI := (RX11, cX11_gaugeOf, 8, (some .int), ({ frames := 3, cells := 0, slots := 0, locals := 64 } : Room), 0, 0, false)
def f_X11_gaugeOf_b82 (h : AH) (N : Nat) (K10 : Nat → Nat → Int32 → Int32 → Int32 → Int32 → Option Int32) (x0 : Nat) (x1 : Nat) (x2 : Int32) (x3 : Int32) (x4 : Int32) (x5 : Int32) : Option Int32 := K10 x0 x1 x2 x3 x4 (x5 + 1)
def f_X11_gaugeOf_b10_body (h : AH) (N : Nat) (K10 : Nat → Nat → Int32 → Int32 → Int32 → Int32 → Option Int32) (x0 : Nat) (x1 : Nat) (x2 : Int32) (x3 : Int32) (x4 : Int32) (x5 : Int32) : Option Int32 := (xgr h x0 12 0).bind fun v1 => (f_Jx4a65c_size_8abf5 h v1).bind fun v2 => (if v2 ≤ x5 then some x3 else (xgr h x0 12 0).bind fun v4 => (f_Jx4a65c_get_915e3 h v4 x5).bind fun v5 => (xcc h v5 4).bind fun _ => (xgi h x1 3 1).bind fun v6 => (xgi h x1 3 2).bind fun v7 => (xgi h v5 4 0).bind fun v8 => (xgi h v5 4 1).bind fun v9 => (f_X11_distance h v6 v7 v8 v9).bind fun v10 => (f_X3_standsIn h v5 x2).bind fun v11 => (if v11 = 0 then f_X11_gaugeOf_b82 h N K10 x0 x1 x2 x3 x4 x5 else (if x4 ≤ v10 then f_X11_gaugeOf_b82 h N K10 x0 x1 x2 x3 x4 x5 else f_X11_gaugeOf_b82 h N K10 x0 x1 x2 x5 v10 x5)))
def f_X11_gaugeOf_b10 (h : AH) (N : Nat) : Nat → Nat → Nat → Int32 → Int32 → Int32 → Int32 → Option Int32
  | 0, _, _, _, _, _, _ => none
  | n + 1, x0, x1, x2, x3, x4, x5 => f_X11_gaugeOf_b10_body h N  (f_X11_gaugeOf_b10 h N  n) x0 x1 x2 x3 x4 x5
def f_X11_gaugeOf (h : AH) (N : Nat) (p0 : Nat) (p1 : Nat) (p2 : Int32) : Option Int32 := if kd h p0 = 12 + 1 then f_X11_gaugeOf_b10 h N N p0 p1 p2 (-1) 199 0 else none
theorem g_X11_gaugeOf {h : AH} {N : Nat} {p0 : Nat} {p1 : Nat} {p2 : Int32} {x : Int32} (e : f_X11_gaugeOf h N p0 p1 p2 = some x) : kd h p0 = 12 + 1 := by
  unfold f_X11_gaugeOf at e
  by_cases hk : kd h p0 = 12 + 1
  · exact hk
  · rw [if_neg hk] at e
    cases e
theorem km_X11_gaugeOf : KM yX11_gaugeOf M_X11_gaugeOf 2 := ⟨in_tb 778 (by decide +kernel) rfl, in_tb 1 (by decide +kernel) rfl, by decide +kernel, rfl, rfl⟩
theorem hm_X11_gaugeOf : M_X11_gaugeOf.2.2.2.2.2.1 = 0 ∧ M_X11_gaugeOf.2.2.2.2.2.2.1 = 0 := ⟨rfl, rfl⟩
section
variable {l : Launch} {g : GG}
set_option maxRecDepth 100000 in
set_option maxHeartbeats 4000000 in
theorem t_X11_gaugeOf_b82 (h : AH) (N : Nat) (K10 : Nat → Nat → Int32 → Int32 → Int32 → Int32 → Option Int32) (hK10 : ∀ (z0 : Nat) (z1 : Nat) (z2 : Int32) (z3 : Int32) (z4 : Int32) (z5 : Int32), AO l g M_X11_gaugeOf false h 10 [(0, .ref z0), (1, .ref z1), (2, .int z2), (3, .int z3), (4, .int z4), (5, .int z5)] [] h 0 0 (rPi h) (K10 z0 z1 z2 z3 z4 z5)) (x0 : Nat) (x1 : Nat) (x2 : Int32) (x3 : Int32) (x4 : Int32) (x5 : Int32) : AO l g M_X11_gaugeOf false h 82 [(0, .ref x0), (1, .ref x1), (2, .int x2), (3, .int x3), (4, .int x4), (5, .int x5)] [] h 0 0 (rPi h) (f_X11_gaugeOf_b82 h N K10 x0 x1 x2 x3 x4 x5) := by
  unfold f_X11_gaugeOf_b82
  refine a_iinc (q := 5) (v := (x5 + 1)) (lc2 := [(5, .int (x5 + 1)), (0, .ref x0), (1, .ref x1), (2, .int x2), (3, .int x3), (4, .int x4)]) dX11_gaugeOf_82 rfl rfl (by decide) rfl ?_
  refine a_goto 10 dX11_gaugeOf_85 (by decide) ?_
  refine a_pick (lc2 := [(0, .ref x0), (1, .ref x1), (2, .int x2), (3, .int x3), (4, .int x4), (5, .int (x5 + 1))]) [1, 2, 3, 4, 5, 0] rfl ?_
  exact hK10 x0 x1 x2 x3 x4 (x5 + 1)
set_option maxRecDepth 100000 in
set_option maxHeartbeats 4000000 in
theorem t_X11_gaugeOf_b10_body (h : AH) (N : Nat) (K10 : Nat → Nat → Int32 → Int32 → Int32 → Int32 → Option Int32) (hK10 : ∀ (z0 : Nat) (z1 : Nat) (z2 : Int32) (z3 : Int32) (z4 : Int32) (z5 : Int32), AO l g M_X11_gaugeOf false h 10 [(0, .ref z0), (1, .ref z1), (2, .int z2), (3, .int z3), (4, .int z4), (5, .int z5)] [] h 0 0 (rPi h) (K10 z0 z1 z2 z3 z4 z5)) (x0 : Nat) (x1 : Nat) (x2 : Int32) (x3 : Int32) (x4 : Int32) (x5 : Int32) : AO l g M_X11_gaugeOf false h 10 [(0, .ref x0), (1, .ref x1), (2, .int x2), (3, .int x3), (4, .int x4), (5, .int x5)] [] h 0 0 (rPi h) (f_X11_gaugeOf_b10_body h N K10 x0 x1 x2 x3 x4 x5) := by
  unfold f_X11_gaugeOf_b10_body
  refine a_iload dX11_gaugeOf_10 5 rfl ?_
  refine a_aload_n dX11_gaugeOf_12 rfl 0 rfl ?_
  refine a_getr kc12 0 dX11_gaugeOf_13 (by decide) rfl w_fieldLink_RainCover_12 (fun v1 => ?_)
  refine a_cV_Pi (r := v1) (ci := 0) (as := []) (st := [.int x5]) dX11_gaugeOf_16 (c_Jx4a65c_size_8abf5 l g h v1) rfl km_Jx4a65c_size_8abf5 (hm_Jx4a65c_size_8abf5) rfl (by decide) rfl (fun _ ee => g_Jx4a65c_size_8abf5 ee) w_methodLink_RainCover_104 w_instanceMethod_java_util_ArrayList_size___I w_selects_java_util_ArrayList_java_util_ArrayList_size___I_java_util_ArrayList_size___I ⟨⟨by decide, by decide⟩, ⟨by decide, by decide⟩⟩ (Nat.le_of_ble_eq_true rfl) (fun v2 => ?_)
  refine a_icmp_ge 88 dX11_gaugeOf_19 (by decide) (fun c3 => ?_) (fun c3 => ?_)
  · refine a_iload_n dX11_gaugeOf_88 rfl 3 rfl ?_
    exact a_iret dX11_gaugeOf_89 rfl rfl (by decide) (by decide)
  · refine a_aload_n dX11_gaugeOf_22 rfl 0 rfl ?_
    refine a_getr kc12 0 dX11_gaugeOf_23 (by decide) rfl w_fieldLink_RainCover_12 (fun v4 => ?_)
    refine a_iload dX11_gaugeOf_26 5 rfl ?_
    refine a_cV_Pr (r := v4) (ci := 0) (as := [.int x5]) (st := []) dX11_gaugeOf_28 (c_Jx4a65c_get_915e3 l g h v4 x5) rfl km_Jx4a65c_get_915e3 (hm_Jx4a65c_get_915e3) rfl (by decide) rfl (fun _ ee => g_Jx4a65c_get_915e3 ee) w_methodLink_RainCover_124 w_instanceMethod_java_util_ArrayList_get__I_Ljava_lang_Object_ w_selects_java_util_ArrayList_java_util_ArrayList_get__I_Ljava_lang_Object__java_util_ArrayList_get__I_Ljava_lang_Object_ ⟨⟨by decide, by decide⟩, ⟨by decide, by decide⟩⟩ (Nat.le_of_ble_eq_true rfl) (fun v5 => ?_)
    refine a_cast kc4 dX11_gaugeOf_31 w_classLink_RainCover_108 ?_
    refine a_astore (lc2 := [(6, .ref v5), (0, .ref x0), (1, .ref x1), (2, .int x2), (3, .int x3), (4, .int x4), (5, .int x5)]) dX11_gaugeOf_34 (by decide) rfl ?_
    refine a_aload_n dX11_gaugeOf_36 rfl 2 rfl ?_
    refine a_geti kc3 1 dX11_gaugeOf_37 (by decide) rfl w_fieldLink_RainCover_304 (fun v6 => ?_)
    refine a_aload_n dX11_gaugeOf_40 rfl 2 rfl ?_
    refine a_geti kc3 2 dX11_gaugeOf_41 (by decide) rfl w_fieldLink_RainCover_305 (fun v7 => ?_)
    refine a_aload dX11_gaugeOf_44 0 rfl ?_
    refine a_geti kc4 0 dX11_gaugeOf_46 (by decide) rfl w_fieldLink_RainCover_182 (fun v8 => ?_)
    refine a_aload dX11_gaugeOf_49 0 rfl ?_
    refine a_geti kc4 1 dX11_gaugeOf_51 (by decide) rfl w_fieldLink_RainCover_185 (fun v9 => ?_)
    refine a_cS_Pi (as := [.int v6, .int v7, .int v8, .int v9]) (st := []) dX11_gaugeOf_54 (c_X11_distance l g h v6 v7 v8 v9) rfl km_X11_distance (hm_X11_distance) w_methodLink_RainCover_188 w_static_RainCover_distance__IIII_I ⟨⟨by decide, by decide⟩, ⟨by decide, by decide⟩⟩ (Nat.le_of_ble_eq_true rfl) (fun v10 => ?_)
    refine a_istore (lc2 := [(7, .int v10), (6, .ref v5), (0, .ref x0), (1, .ref x1), (2, .int x2), (3, .int x3), (4, .int x4), (5, .int x5)]) dX11_gaugeOf_57 (by decide) rfl ?_
    refine a_aload dX11_gaugeOf_59 1 rfl ?_
    refine a_iload_n dX11_gaugeOf_61 rfl 4 rfl ?_
    refine a_cV_Pi (r := v5) (ci := 4) (as := [.int x2]) (st := []) dX11_gaugeOf_62 (c_X3_standsIn l g h v5 x2) rfl km_X3_standsIn (hm_X3_standsIn) rfl (by decide) rfl (fun _ ee => g_X3_standsIn ee) w_methodLink_RainCover_309 w_instanceMethod_RainCover_Gauge_standsIn__I_Z w_selects_RainCover_Gauge_RainCover_Gauge_standsIn__I_Z_RainCover_Gauge_standsIn__I_Z ⟨⟨by decide, by decide⟩, ⟨by decide, by decide⟩⟩ (Nat.le_of_ble_eq_true rfl) (fun v11 => ?_)
    refine a_if_eq 82 dX11_gaugeOf_65 (by decide) (fun c12 => ?_) (fun c12 => ?_)
    · refine a_pick (lc2 := [(0, .ref x0), (1, .ref x1), (2, .int x2), (3, .int x3), (4, .int x4), (5, .int x5)]) [2, 3, 4, 5, 6, 7] rfl ?_
      exact t_X11_gaugeOf_b82 h N K10 hK10 x0 x1 x2 x3 x4 x5
    · refine a_iload dX11_gaugeOf_68 0 rfl ?_
      refine a_iload dX11_gaugeOf_70 6 rfl ?_
      refine a_icmp_ge 82 dX11_gaugeOf_72 (by decide) (fun c13 => ?_) (fun c13 => ?_)
      · refine a_pick (lc2 := [(0, .ref x0), (1, .ref x1), (2, .int x2), (3, .int x3), (4, .int x4), (5, .int x5)]) [2, 3, 4, 5, 6, 7] rfl ?_
        exact t_X11_gaugeOf_b82 h N K10 hK10 x0 x1 x2 x3 x4 x5
      · refine a_iload dX11_gaugeOf_75 0 rfl ?_
        refine a_istore (lc2 := [(4, .int v10), (7, .int v10), (6, .ref v5), (0, .ref x0), (1, .ref x1), (2, .int x2), (3, .int x3), (5, .int x5)]) dX11_gaugeOf_77 (by decide) rfl ?_
        refine a_iload dX11_gaugeOf_79 7 rfl ?_
        refine a_istore_n (lc2 := [(3, .int x5), (4, .int v10), (7, .int v10), (6, .ref v5), (0, .ref x0), (1, .ref x1), (2, .int x2), (5, .int x5)]) dX11_gaugeOf_81 rfl (by decide) rfl ?_
        refine a_pick (lc2 := [(0, .ref x0), (1, .ref x1), (2, .int x2), (3, .int x5), (4, .int v10), (5, .int x5)]) [4, 5, 6, 0, 1, 7] rfl ?_
        exact t_X11_gaugeOf_b82 h N K10 hK10 x0 x1 x2 x5 v10 x5
set_option maxRecDepth 100000 in
set_option maxHeartbeats 4000000 in
theorem t_X11_gaugeOf_b10 (h : AH) (N : Nat) : ∀ (n : Nat) (x0 : Nat) (x1 : Nat) (x2 : Int32) (x3 : Int32) (x4 : Int32) (x5 : Int32) , AO l g M_X11_gaugeOf false h 10 [(0, .ref x0), (1, .ref x1), (2, .int x2), (3, .int x3), (4, .int x4), (5, .int x5)] [] h 0 0 (rPi h) (f_X11_gaugeOf_b10 h N  n x0 x1 x2 x3 x4 x5) := by
  intro n
  induction n with
  | zero => intro x0 x1 x2 x3 x4 x5; exact a_eq rfl a_none
  | succ n ih => intro x0 x1 x2 x3 x4 x5; exact a_eq rfl (t_X11_gaugeOf_b10_body h N  (f_X11_gaugeOf_b10 h N  n) ih x0 x1 x2 x3 x4 x5)
end
set_option maxRecDepth 100000 in
set_option maxHeartbeats 4000000 in
theorem c_X11_gaugeOf (l : Launch) (g : GG) (h : AH) (N : Nat) (p0 : Nat) (p1 : Nat) (p2 : Int32) : CN l g yX11_gaugeOf M_X11_gaugeOf false [.ref p0, .ref p1, .int p2] h ((rPi h)) (f_X11_gaugeOf h N p0 p1 p2) := by
  refine CN.of (by decide) rfl (fun hh => by first | rfl | cases hh) (Nat.le_of_ble_eq_true rfl) ?_
  unfold f_X11_gaugeOf
  refine a_gd (fun hkd => ?_)
  refine a_iconst (v := (-1)) dX11_gaugeOf_0 (by decide) ?_
  refine a_istore_n (lc2 := [(3, .int (-1)), (0, .ref p0), (1, .ref p1), (2, .int p2)]) dX11_gaugeOf_1 rfl (by decide) rfl ?_
  refine a_sipush (v := 199) dX11_gaugeOf_2 (by decide) ?_
  refine a_istore (lc2 := [(4, .int 199), (3, .int (-1)), (0, .ref p0), (1, .ref p1), (2, .int p2)]) dX11_gaugeOf_5 (by decide) rfl ?_
  refine a_iconst (v := 0) dX11_gaugeOf_7 (by decide) ?_
  refine a_istore (lc2 := [(5, .int 0), (4, .int 199), (3, .int (-1)), (0, .ref p0), (1, .ref p1), (2, .int p2)]) dX11_gaugeOf_8 (by decide) rfl ?_
  refine a_pick (lc2 := [(0, .ref p0), (1, .ref p1), (2, .int p2), (3, .int (-1)), (4, .int 199), (5, .int 0)]) [3, 4, 5, 2, 1, 0] rfl ?_
  exact t_X11_gaugeOf_b10 h N N p0 p1 p2 (-1) 199 0
theorem dX11_termOf_0 : decode cX11_termOf 0 = .ok (.aload_n 0, 1) := by decide +kernel
theorem dX11_termOf_1 : decode cX11_termOf 1 = .ok (.iload_n 1, 1) := by decide +kernel
theorem dX11_termOf_2 : decode cX11_termOf 2 = .ok (.iload_n 2, 1) := by decide +kernel
theorem dX11_termOf_3 : decode cX11_termOf 3 = .ok (.invokevirtual 257, 3) := by decide +kernel
theorem dX11_termOf_6 : decode cX11_termOf 6 = .ok (.istore_n 3, 1) := by decide +kernel
theorem dX11_termOf_7 : decode cX11_termOf 7 = .ok (.iload_n 3, 1) := by decide +kernel
theorem dX11_termOf_8 : decode cX11_termOf 8 = .ok (.iconst (-1), 1) := by decide +kernel
theorem dX11_termOf_9 : decode cX11_termOf 9 = .ok (.if_icmp .ne 7, 3) := by decide +kernel
theorem dX11_termOf_12 : decode cX11_termOf 12 = .ok (.iconst (-1), 1) := by decide +kernel
theorem dX11_termOf_13 : decode cX11_termOf 13 = .ok (.goto 12, 3) := by decide +kernel
theorem dX11_termOf_16 : decode cX11_termOf 16 = .ok (.aload_n 0, 1) := by decide +kernel
theorem dX11_termOf_17 : decode cX11_termOf 17 = .ok (.getfield 53, 3) := by decide +kernel
theorem dX11_termOf_20 : decode cX11_termOf 20 = .ok (.iload_n 3, 1) := by decide +kernel
theorem dX11_termOf_21 : decode cX11_termOf 21 = .ok (.iconst 2, 1) := by decide +kernel
theorem dX11_termOf_22 : decode cX11_termOf 22 = .ok (.invokevirtual 266, 3) := by decide +kernel
theorem dX11_termOf_25 : decode cX11_termOf 25 = .ok (.ireturn, 1) := by decide +kernel
abbrev M_X11_termOf : MI := (RX11, cX11_termOf, 4, (some .int), ({ frames := 2, cells := 0, slots := 0, locals := 45 } : Room), 0, 0, false)
def f_X11_termOf (h : AH) (N : Nat) (p0 : Nat) (p1 : Int32) (p2 : Int32) : Option Int32 := if kd h p0 = 12 + 1 then (f_X11_coverOf h N p0 p1 p2).bind fun v1 => (if v1 = (-1) then some (-1) else (xgr h p0 12 8).bind fun v3 => (f_X7_at h v3 v1 2).bind fun v4 => some v4) else none
theorem g_X11_termOf {h : AH} {N : Nat} {p0 : Nat} {p1 : Int32} {p2 : Int32} {x : Int32} (e : f_X11_termOf h N p0 p1 p2 = some x) : kd h p0 = 12 + 1 := by
  unfold f_X11_termOf at e
  by_cases hk : kd h p0 = 12 + 1
  · exact hk
  · rw [if_neg hk] at e
    cases e
theorem km_X11_termOf : KM yX11_termOf M_X11_termOf 2 := ⟨in_tb 786 (by decide +kernel) rfl, in_tb 1 (by decide +kernel) rfl, by decide +kernel, rfl, rfl⟩
theorem hm_X11_termOf : M_X11_termOf.2.2.2.2.2.1 = 0 ∧ M_X11_termOf.2.2.2.2.2.2.1 = 0 := ⟨rfl, rfl⟩
section
variable {l : Launch} {g : GG}
end
set_option maxRecDepth 100000 in
set_option maxHeartbeats 4000000 in
theorem c_X11_termOf (l : Launch) (g : GG) (h : AH) (N : Nat) (p0 : Nat) (p1 : Int32) (p2 : Int32) : CN l g yX11_termOf M_X11_termOf false [.ref p0, .int p1, .int p2] h ((rPi h)) (f_X11_termOf h N p0 p1 p2) := by
  refine CN.of (by decide) rfl (fun hh => by first | rfl | cases hh) (Nat.le_of_ble_eq_true rfl) ?_
  unfold f_X11_termOf
  refine a_gd (fun hkd => ?_)
  refine a_aload_n dX11_termOf_0 rfl 0 rfl ?_
  refine a_iload_n dX11_termOf_1 rfl 1 rfl ?_
  refine a_iload_n dX11_termOf_2 rfl 2 rfl ?_
  refine a_cV_Pi (r := p0) (ci := 12) (as := [.int p1, .int p2]) (st := []) dX11_termOf_3 (c_X11_coverOf l g h N p0 p1 p2) rfl km_X11_coverOf (hm_X11_coverOf) rfl (by decide) rfl (fun _ ee => g_X11_coverOf ee) w_methodLink_RainCover_257 w_instanceMethod_RainCover_coverOf__II_I w_selects_RainCover_RainCover_coverOf__II_I_RainCover_coverOf__II_I ⟨⟨by decide, by decide⟩, ⟨by decide, by decide⟩⟩ (Nat.le_of_ble_eq_true rfl) (fun v1 => ?_)
  refine a_istore_n (lc2 := [(3, .int v1), (0, .ref p0), (1, .int p1), (2, .int p2)]) dX11_termOf_6 rfl (by decide) rfl ?_
  refine a_iload_n dX11_termOf_7 rfl 0 rfl ?_
  refine a_iconst (v := (-1)) dX11_termOf_8 (by decide) ?_
  refine a_icmp_ne 16 dX11_termOf_9 (by decide) (fun c2 => ?_) (fun c2 => ?_)
  · refine a_iconst (v := (-1)) dX11_termOf_12 (by decide) ?_
    refine a_goto 25 dX11_termOf_13 (by decide) ?_
    exact a_iret dX11_termOf_25 rfl rfl (by decide) (by decide)
  · refine a_aload_n dX11_termOf_16 rfl 1 rfl ?_
    refine a_getr kc12 8 dX11_termOf_17 (by decide) rfl w_fieldLink_RainCover_53 (fun v3 => ?_)
    refine a_iload_n dX11_termOf_20 rfl 0 rfl ?_
    refine a_iconst (v := 2) dX11_termOf_21 (by decide) ?_
    refine a_cV_Pi (r := v3) (ci := 8) (as := [.int v1, .int 2]) (st := []) dX11_termOf_22 (c_X7_at l g h v3 v1 2) rfl km_X7_at (hm_X7_at) rfl (by decide) rfl (fun _ ee => g_X7_at ee) w_methodLink_RainCover_266 w_instanceMethod_RainCover_Table_at__II_I w_selects_RainCover_Table_RainCover_Table_at__II_I_RainCover_Table_at__II_I ⟨⟨by decide, by decide⟩, ⟨by decide, by decide⟩⟩ (Nat.le_of_ble_eq_true rfl) (fun v4 => ?_)
    exact a_iret dX11_termOf_25 rfl rfl (by decide) (by decide)
theorem dX11_distanceToGauge_0 : decode cX11_distanceToGauge 0 = .ok (.aload_n 0, 1) := by decide +kernel
theorem dX11_distanceToGauge_1 : decode cX11_distanceToGauge 1 = .ok (.aload_n 1, 1) := by decide +kernel
theorem dX11_distanceToGauge_2 : decode cX11_distanceToGauge 2 = .ok (.iload_n 2, 1) := by decide +kernel
theorem dX11_distanceToGauge_3 : decode cX11_distanceToGauge 3 = .ok (.invokevirtual 272, 3) := by decide +kernel
theorem dX11_distanceToGauge_6 : decode cX11_distanceToGauge 6 = .ok (.istore_n 3, 1) := by decide +kernel
theorem dX11_distanceToGauge_7 : decode cX11_distanceToGauge 7 = .ok (.iload_n 3, 1) := by decide +kernel
theorem dX11_distanceToGauge_8 : decode cX11_distanceToGauge 8 = .ok (.iconst (-1), 1) := by decide +kernel
theorem dX11_distanceToGauge_9 : decode cX11_distanceToGauge 9 = .ok (.if_icmp .ne 5, 3) := by decide +kernel
theorem dX11_distanceToGauge_12 : decode cX11_distanceToGauge 12 = .ok (.iconst (-1), 1) := by decide +kernel
theorem dX11_distanceToGauge_13 : decode cX11_distanceToGauge 13 = .ok (.ireturn, 1) := by decide +kernel
theorem dX11_distanceToGauge_14 : decode cX11_distanceToGauge 14 = .ok (.aload_n 0, 1) := by decide +kernel
theorem dX11_distanceToGauge_15 : decode cX11_distanceToGauge 15 = .ok (.getfield 12, 3) := by decide +kernel
theorem dX11_distanceToGauge_18 : decode cX11_distanceToGauge 18 = .ok (.iload_n 3, 1) := by decide +kernel
theorem dX11_distanceToGauge_19 : decode cX11_distanceToGauge 19 = .ok (.invokevirtual 124, 3) := by decide +kernel
theorem dX11_distanceToGauge_22 : decode cX11_distanceToGauge 22 = .ok (.checkcast 108, 3) := by decide +kernel
theorem dX11_distanceToGauge_25 : decode cX11_distanceToGauge 25 = .ok (.astore 4, 2) := by decide +kernel
theorem dX11_distanceToGauge_27 : decode cX11_distanceToGauge 27 = .ok (.aload_n 1, 1) := by decide +kernel
theorem dX11_distanceToGauge_28 : decode cX11_distanceToGauge 28 = .ok (.getfield 304, 3) := by decide +kernel
theorem dX11_distanceToGauge_31 : decode cX11_distanceToGauge 31 = .ok (.aload_n 1, 1) := by decide +kernel
theorem dX11_distanceToGauge_32 : decode cX11_distanceToGauge 32 = .ok (.getfield 305, 3) := by decide +kernel
theorem dX11_distanceToGauge_35 : decode cX11_distanceToGauge 35 = .ok (.aload 4, 2) := by decide +kernel
theorem dX11_distanceToGauge_37 : decode cX11_distanceToGauge 37 = .ok (.getfield 182, 3) := by decide +kernel
theorem dX11_distanceToGauge_40 : decode cX11_distanceToGauge 40 = .ok (.aload 4, 2) := by decide +kernel
theorem dX11_distanceToGauge_42 : decode cX11_distanceToGauge 42 = .ok (.getfield 185, 3) := by decide +kernel
theorem dX11_distanceToGauge_45 : decode cX11_distanceToGauge 45 = .ok (.invokestatic 188, 3) := by decide +kernel
theorem dX11_distanceToGauge_48 : decode cX11_distanceToGauge 48 = .ok (.ireturn, 1) := by decide +kernel
abbrev M_X11_distanceToGauge : MI := (RX11, cX11_distanceToGauge, 5, (some .int), ({ frames := 4, cells := 0, slots := 0, locals := 91 } : Room), 0, 0, false)
def f_X11_distanceToGauge (h : AH) (N : Nat) (p0 : Nat) (p1 : Nat) (p2 : Int32) : Option Int32 := if kd h p0 = 12 + 1 then (f_X11_gaugeOf h N p0 p1 p2).bind fun v1 => (if v1 = (-1) then some (-1) else (xgr h p0 12 0).bind fun v3 => (f_Jx4a65c_get_915e3 h v3 v1).bind fun v4 => (xcc h v4 4).bind fun _ => (xgi h p1 3 1).bind fun v5 => (xgi h p1 3 2).bind fun v6 => (xgi h v4 4 0).bind fun v7 => (xgi h v4 4 1).bind fun v8 => (f_X11_distance h v5 v6 v7 v8).bind fun v9 => some v9) else none
theorem g_X11_distanceToGauge {h : AH} {N : Nat} {p0 : Nat} {p1 : Nat} {p2 : Int32} {x : Int32} (e : f_X11_distanceToGauge h N p0 p1 p2 = some x) : kd h p0 = 12 + 1 := by
  unfold f_X11_distanceToGauge at e
  by_cases hk : kd h p0 = 12 + 1
  · exact hk
  · rw [if_neg hk] at e
    cases e
theorem km_X11_distanceToGauge : KM yX11_distanceToGauge M_X11_distanceToGauge 2 := ⟨in_tb 790 (by decide +kernel) rfl, in_tb 1 (by decide +kernel) rfl, by decide +kernel, rfl, rfl⟩
theorem hm_X11_distanceToGauge : M_X11_distanceToGauge.2.2.2.2.2.1 = 0 ∧ M_X11_distanceToGauge.2.2.2.2.2.2.1 = 0 := ⟨rfl, rfl⟩
section
variable {l : Launch} {g : GG}
end
set_option maxRecDepth 100000 in
set_option maxHeartbeats 4000000 in
theorem c_X11_distanceToGauge (l : Launch) (g : GG) (h : AH) (N : Nat) (p0 : Nat) (p1 : Nat) (p2 : Int32) : CN l g yX11_distanceToGauge M_X11_distanceToGauge false [.ref p0, .ref p1, .int p2] h ((rPi h)) (f_X11_distanceToGauge h N p0 p1 p2) := by
  refine CN.of (by decide) rfl (fun hh => by first | rfl | cases hh) (Nat.le_of_ble_eq_true rfl) ?_
  unfold f_X11_distanceToGauge
  refine a_gd (fun hkd => ?_)
  refine a_aload_n dX11_distanceToGauge_0 rfl 0 rfl ?_
  refine a_aload_n dX11_distanceToGauge_1 rfl 1 rfl ?_
  refine a_iload_n dX11_distanceToGauge_2 rfl 2 rfl ?_
  refine a_cV_Pi (r := p0) (ci := 12) (as := [.ref p1, .int p2]) (st := []) dX11_distanceToGauge_3 (c_X11_gaugeOf l g h N p0 p1 p2) rfl km_X11_gaugeOf (hm_X11_gaugeOf) rfl (by decide) rfl (fun _ ee => g_X11_gaugeOf ee) w_methodLink_RainCover_272 w_instanceMethod_RainCover_gaugeOf__LRainCover_Farm_I_I w_selects_RainCover_RainCover_gaugeOf__LRainCover_Farm_I_I_RainCover_gaugeOf__LRainCover_Farm_I_I ⟨⟨by decide, by decide⟩, ⟨by decide, by decide⟩⟩ (Nat.le_of_ble_eq_true rfl) (fun v1 => ?_)
  refine a_istore_n (lc2 := [(3, .int v1), (0, .ref p0), (1, .ref p1), (2, .int p2)]) dX11_distanceToGauge_6 rfl (by decide) rfl ?_
  refine a_iload_n dX11_distanceToGauge_7 rfl 0 rfl ?_
  refine a_iconst (v := (-1)) dX11_distanceToGauge_8 (by decide) ?_
  refine a_icmp_ne 14 dX11_distanceToGauge_9 (by decide) (fun c2 => ?_) (fun c2 => ?_)
  · refine a_iconst (v := (-1)) dX11_distanceToGauge_12 (by decide) ?_
    exact a_iret dX11_distanceToGauge_13 rfl rfl (by decide) (by decide)
  · refine a_aload_n dX11_distanceToGauge_14 rfl 1 rfl ?_
    refine a_getr kc12 0 dX11_distanceToGauge_15 (by decide) rfl w_fieldLink_RainCover_12 (fun v3 => ?_)
    refine a_iload_n dX11_distanceToGauge_18 rfl 0 rfl ?_
    refine a_cV_Pr (r := v3) (ci := 0) (as := [.int v1]) (st := []) dX11_distanceToGauge_19 (c_Jx4a65c_get_915e3 l g h v3 v1) rfl km_Jx4a65c_get_915e3 (hm_Jx4a65c_get_915e3) rfl (by decide) rfl (fun _ ee => g_Jx4a65c_get_915e3 ee) w_methodLink_RainCover_124 w_instanceMethod_java_util_ArrayList_get__I_Ljava_lang_Object_ w_selects_java_util_ArrayList_java_util_ArrayList_get__I_Ljava_lang_Object__java_util_ArrayList_get__I_Ljava_lang_Object_ ⟨⟨by decide, by decide⟩, ⟨by decide, by decide⟩⟩ (Nat.le_of_ble_eq_true rfl) (fun v4 => ?_)
    refine a_cast kc4 dX11_distanceToGauge_22 w_classLink_RainCover_108 ?_
    refine a_astore (lc2 := [(4, .ref v4), (3, .int v1), (0, .ref p0), (1, .ref p1), (2, .int p2)]) dX11_distanceToGauge_25 (by decide) rfl ?_
    refine a_aload_n dX11_distanceToGauge_27 rfl 3 rfl ?_
    refine a_geti kc3 1 dX11_distanceToGauge_28 (by decide) rfl w_fieldLink_RainCover_304 (fun v5 => ?_)
    refine a_aload_n dX11_distanceToGauge_31 rfl 3 rfl ?_
    refine a_geti kc3 2 dX11_distanceToGauge_32 (by decide) rfl w_fieldLink_RainCover_305 (fun v6 => ?_)
    refine a_aload dX11_distanceToGauge_35 0 rfl ?_
    refine a_geti kc4 0 dX11_distanceToGauge_37 (by decide) rfl w_fieldLink_RainCover_182 (fun v7 => ?_)
    refine a_aload dX11_distanceToGauge_40 0 rfl ?_
    refine a_geti kc4 1 dX11_distanceToGauge_42 (by decide) rfl w_fieldLink_RainCover_185 (fun v8 => ?_)
    refine a_cS_Pi (as := [.int v5, .int v6, .int v7, .int v8]) (st := []) dX11_distanceToGauge_45 (c_X11_distance l g h v5 v6 v7 v8) rfl km_X11_distance (hm_X11_distance) w_methodLink_RainCover_188 w_static_RainCover_distance__IIII_I ⟨⟨by decide, by decide⟩, ⟨by decide, by decide⟩⟩ (Nat.le_of_ble_eq_true rfl) (fun v9 => ?_)
    exact a_iret dX11_distanceToGauge_48 rfl rfl (by decide) (by decide)
theorem dX2_district_0 : decode cX2_district 0 = .ok (.aload_n 0, 1) := by decide +kernel
theorem dX2_district_1 : decode cX2_district 1 = .ok (.getfield 28, 3) := by decide +kernel
theorem dX2_district_4 : decode cX2_district 4 = .ok (.bipush 25, 2) := by decide +kernel
theorem dX2_district_6 : decode cX2_district 6 = .ok (.idiv, 1) := by decide +kernel
theorem dX2_district_7 : decode cX2_district 7 = .ok (.ireturn, 1) := by decide +kernel
abbrev M_X2_district : MI := (RX2, cX2_district, 1, (some .int), ({ frames := 0, cells := 0, slots := 0, locals := 0 } : Room), 0, 0, false)
def f_X2_district (h : AH) (p0 : Nat) : Option Int32 := if kd h p0 = 3 + 1 then (xgi h p0 3 1).bind fun v1 => (if 25 = 0 then none else some (v1 / 25)) else none
theorem g_X2_district {h : AH} {p0 : Nat} {x : Int32} (e : f_X2_district h p0 = some x) : kd h p0 = 3 + 1 := by
  unfold f_X2_district at e
  by_cases hk : kd h p0 = 3 + 1
  · exact hk
  · rw [if_neg hk] at e
    cases e
theorem km_X2_district : KM yX2_district M_X2_district 0 := ⟨in_tb 798 (by decide +kernel) rfl, in_tb 21 (by decide +kernel) rfl, by decide +kernel, rfl, rfl⟩
theorem hm_X2_district : M_X2_district.2.2.2.2.2.1 = 0 ∧ M_X2_district.2.2.2.2.2.2.1 = 0 := ⟨rfl, rfl⟩
section
variable {l : Launch} {g : GG}
end
set_option maxRecDepth 100000 in
set_option maxHeartbeats 4000000 in
theorem c_X2_district (l : Launch) (g : GG) (h : AH) (p0 : Nat) : CN l g yX2_district M_X2_district false [.ref p0] h ((rPi h)) (f_X2_district h p0) := by
  refine CN.of (by decide) rfl (fun hh => by first | rfl | cases hh) (Nat.le_of_ble_eq_true rfl) ?_
  unfold f_X2_district
  refine a_gd (fun hkd => ?_)
  refine a_aload_n dX2_district_0 rfl 0 rfl ?_
  refine a_geti kc3 1 dX2_district_1 (by decide) rfl w_fieldLink_RainCover_Farm_28 (fun v1 => ?_)
  refine a_bipush (v := 25) dX2_district_4 (by decide) ?_
  refine a_idiv dX2_district_6 (fun c2 => ?_)
  exact a_iret dX2_district_7 rfl rfl (by decide) (by decide)
theorem dX0_kind_0 : decode cX0_kind 0 = .ok (.iconst 3, 1) := by decide +kernel
theorem dX0_kind_1 : decode cX0_kind 1 = .ok (.ireturn, 1) := by decide +kernel
abbrev M_X0_kind : MI := (RX0, cX0_kind, 1, (some .int), ({ frames := 0, cells := 0, slots := 0, locals := 0 } : Room), 0, 0, false)
def f_X0_kind (h : AH) (p0 : Nat) : Option Int32 := if kd h p0 = 1 + 1 then some 3 else none
theorem g_X0_kind {h : AH} {p0 : Nat} {x : Int32} (e : f_X0_kind h p0 = some x) : kd h p0 = 1 + 1 := by
  unfold f_X0_kind at e
  by_cases hk : kd h p0 = 1 + 1
  · exact hk
  · rw [if_neg hk] at e
    cases e
theorem km_X0_kind : KM yX0_kind M_X0_kind 0 := ⟨in_tb 805 (by decide +kernel) rfl, in_tb 25 (by decide +kernel) rfl, by decide +kernel, rfl, rfl⟩
theorem hm_X0_kind : M_X0_kind.2.2.2.2.2.1 = 0 ∧ M_X0_kind.2.2.2.2.2.2.1 = 0 := ⟨rfl, rfl⟩
section
variable {l : Launch} {g : GG}
end
set_option maxRecDepth 100000 in
set_option maxHeartbeats 4000000 in
theorem c_X0_kind (l : Launch) (g : GG) (h : AH) (p0 : Nat) : CN l g yX0_kind M_X0_kind false [.ref p0] h ((rPi h)) (f_X0_kind h p0) := by
  refine CN.of (by decide) rfl (fun hh => by first | rfl | cases hh) (Nat.le_of_ble_eq_true rfl) ?_
  unfold f_X0_kind
  refine a_gd (fun hkd => ?_)
  refine a_iconst (v := 3) dX0_kind_0 (by decide) ?_
  exact a_iret dX0_kind_1 rfl rfl (by decide) (by decide)
theorem dX1_kind_0 : decode cX1_kind 0 = .ok (.iconst 0, 1) := by decide +kernel
theorem dX1_kind_1 : decode cX1_kind 1 = .ok (.ireturn, 1) := by decide +kernel
abbrev M_X1_kind : MI := (RX1, cX1_kind, 1, (some .int), ({ frames := 0, cells := 0, slots := 0, locals := 0 } : Room), 0, 0, false)
def f_X1_kind (h : AH) (p0 : Nat) : Option Int32 := if kd h p0 = 2 ∨ kd h p0 = 3 ∨ kd h p0 = 6 ∨ kd h p0 = 7 then some 0 else none
theorem g_X1_kind {h : AH} {p0 : Nat} {x : Int32} (e : f_X1_kind h p0 = some x) : kd h p0 = 2 ∨ kd h p0 = 3 ∨ kd h p0 = 6 ∨ kd h p0 = 7 := by
  unfold f_X1_kind at e
  by_cases hk : kd h p0 = 2 ∨ kd h p0 = 3 ∨ kd h p0 = 6 ∨ kd h p0 = 7
  · exact hk
  · rw [if_neg hk] at e
    cases e
theorem km_X1_kind : KM yX1_kind M_X1_kind 0 := ⟨in_tb 812 (by decide +kernel) rfl, in_tb 22 (by decide +kernel) rfl, by decide +kernel, rfl, rfl⟩
theorem hm_X1_kind : M_X1_kind.2.2.2.2.2.1 = 0 ∧ M_X1_kind.2.2.2.2.2.2.1 = 0 := ⟨rfl, rfl⟩
section
variable {l : Launch} {g : GG}
end
set_option maxRecDepth 100000 in
set_option maxHeartbeats 4000000 in
theorem c_X1_kind (l : Launch) (g : GG) (h : AH) (p0 : Nat) : CN l g yX1_kind M_X1_kind false [.ref p0] h ((rPi h)) (f_X1_kind h p0) := by
  refine CN.of (by decide) rfl (fun hh => by first | rfl | cases hh) (Nat.le_of_ble_eq_true rfl) ?_
  unfold f_X1_kind
  refine a_gd (fun hkd => ?_)
  refine a_iconst (v := 0) dX1_kind_0 (by decide) ?_
  exact a_iret dX1_kind_1 rfl rfl (by decide) (by decide)
theorem dX4_kind_0 : decode cX4_kind 0 = .ok (.iconst 1, 1) := by decide +kernel
theorem dX4_kind_1 : decode cX4_kind 1 = .ok (.ireturn, 1) := by decide +kernel
abbrev M_X4_kind : MI := (RX4, cX4_kind, 1, (some .int), ({ frames := 0, cells := 0, slots := 0, locals := 0 } : Room), 0, 0, false)
def f_X4_kind (h : AH) (p0 : Nat) : Option Int32 := if kd h p0 = 6 ∨ kd h p0 = 7 then some 1 else none
theorem g_X4_kind {h : AH} {p0 : Nat} {x : Int32} (e : f_X4_kind h p0 = some x) : kd h p0 = 6 ∨ kd h p0 = 7 := by
  unfold f_X4_kind at e
  by_cases hk : kd h p0 = 6 ∨ kd h p0 = 7
  · exact hk
  · rw [if_neg hk] at e
    cases e
theorem km_X4_kind : KM yX4_kind M_X4_kind 0 := ⟨in_tb 808 (by decide +kernel) rfl, in_tb 23 (by decide +kernel) rfl, by decide +kernel, rfl, rfl⟩
theorem hm_X4_kind : M_X4_kind.2.2.2.2.2.1 = 0 ∧ M_X4_kind.2.2.2.2.2.2.1 = 0 := ⟨rfl, rfl⟩
section
variable {l : Launch} {g : GG}
end
set_option maxRecDepth 100000 in
set_option maxHeartbeats 4000000 in
theorem c_X4_kind (l : Launch) (g : GG) (h : AH) (p0 : Nat) : CN l g yX4_kind M_X4_kind false [.ref p0] h ((rPi h)) (f_X4_kind h p0) := by
  refine CN.of (by decide) rfl (fun hh => by first | rfl | cases hh) (Nat.le_of_ble_eq_true rfl) ?_
  unfold f_X4_kind
  refine a_gd (fun hkd => ?_)
  refine a_iconst (v := 1) dX4_kind_0 (by decide) ?_
  exact a_iret dX4_kind_1 rfl rfl (by decide) (by decide)
theorem dX5_kind_0 : decode cX5_kind 0 = .ok (.iconst 2, 1) := by decide +kernel
theorem dX5_kind_1 : decode cX5_kind 1 = .ok (.ireturn, 1) := by decide +kernel
abbrev M_X5_kind : MI := (RX5, cX5_kind, 1, (some .int), ({ frames := 0, cells := 0, slots := 0, locals := 0 } : Room), 0, 0, false)
def f_X5_kind (h : AH) (p0 : Nat) : Option Int32 := if kd h p0 = 6 + 1 then some 2 else none
theorem g_X5_kind {h : AH} {p0 : Nat} {x : Int32} (e : f_X5_kind h p0 = some x) : kd h p0 = 6 + 1 := by
  unfold f_X5_kind at e
  by_cases hk : kd h p0 = 6 + 1
  · exact hk
  · rw [if_neg hk] at e
    cases e
theorem km_X5_kind : KM yX5_kind M_X5_kind 0 := ⟨in_tb 811 (by decide +kernel) rfl, in_tb 24 (by decide +kernel) rfl, by decide +kernel, rfl, rfl⟩
theorem hm_X5_kind : M_X5_kind.2.2.2.2.2.1 = 0 ∧ M_X5_kind.2.2.2.2.2.2.1 = 0 := ⟨rfl, rfl⟩
section
variable {l : Launch} {g : GG}
end
set_option maxRecDepth 100000 in
set_option maxHeartbeats 4000000 in
theorem c_X5_kind (l : Launch) (g : GG) (h : AH) (p0 : Nat) : CN l g yX5_kind M_X5_kind false [.ref p0] h ((rPi h)) (f_X5_kind h p0) := by
  refine CN.of (by decide) rfl (fun hh => by first | rfl | cases hh) (Nat.le_of_ble_eq_true rfl) ?_
  unfold f_X5_kind
  refine a_gd (fun hkd => ?_)
  refine a_iconst (v := 2) dX5_kind_0 (by decide) ?_
  exact a_iret dX5_kind_1 rfl rfl (by decide) (by decide)
theorem dX11_payOf_0 : decode cX11_payOf 0 = .ok (.aload_n 0, 1) := by decide +kernel
theorem dX11_payOf_1 : decode cX11_payOf 1 = .ok (.aload_n 1, 1) := by decide +kernel
theorem dX11_payOf_2 : decode cX11_payOf 2 = .ok (.iload_n 2, 1) := by decide +kernel
theorem dX11_payOf_3 : decode cX11_payOf 3 = .ok (.invokevirtual 272, 3) := by decide +kernel
theorem dX11_payOf_6 : decode cX11_payOf 6 = .ok (.istore 5, 2) := by decide +kernel
theorem dX11_payOf_8 : decode cX11_payOf 8 = .ok (.iload 5, 2) := by decide +kernel
theorem dX11_payOf_10 : decode cX11_payOf 10 = .ok (.iconst (-1), 1) := by decide +kernel
theorem dX11_payOf_11 : decode cX11_payOf 11 = .ok (.if_icmp .ne 7, 3) := by decide +kernel
theorem dX11_payOf_14 : decode cX11_payOf 14 = .ok (.iconst 0, 1) := by decide +kernel
theorem dX11_payOf_15 : decode cX11_payOf 15 = .ok (.goto 29, 3) := by decide +kernel
theorem dX11_payOf_18 : decode cX11_payOf 18 = .ok (.aload_n 0, 1) := by decide +kernel
theorem dX11_payOf_19 : decode cX11_payOf 19 = .ok (.iload_n 3, 1) := by decide +kernel
theorem dX11_payOf_20 : decode cX11_payOf 20 = .ok (.iload 5, 2) := by decide +kernel
theorem dX11_payOf_22 : decode cX11_payOf 22 = .ok (.iload_n 2, 1) := by decide +kernel
theorem dX11_payOf_23 : decode cX11_payOf 23 = .ok (.aload_n 0, 1) := by decide +kernel
theorem dX11_payOf_24 : decode cX11_payOf 24 = .ok (.getfield 45, 3) := by decide +kernel
theorem dX11_payOf_27 : decode cX11_payOf 27 = .ok (.aload_n 1, 1) := by decide +kernel
theorem dX11_payOf_28 : decode cX11_payOf 28 = .ok (.invokevirtual 286, 3) := by decide +kernel
theorem dX11_payOf_31 : decode cX11_payOf 31 = .ok (.iaload, 1) := by decide +kernel
theorem dX11_payOf_32 : decode cX11_payOf 32 = .ok (.aload_n 1, 1) := by decide +kernel
theorem dX11_payOf_33 : decode cX11_payOf 33 = .ok (.getfield 312, 3) := by decide +kernel
theorem dX11_payOf_36 : decode cX11_payOf 36 = .ok (.invokevirtual 315, 3) := by decide +kernel
theorem dX11_payOf_39 : decode cX11_payOf 39 = .ok (.iload 4, 2) := by decide +kernel
theorem dX11_payOf_41 : decode cX11_payOf 41 = .ok (.invokevirtual 222, 3) := by decide +kernel
theorem dX11_payOf_44 : decode cX11_payOf 44 = .ok (.ireturn, 1) := by decide +kernel
abbrev M_X11_payOf : MI := (RX11, cX11_payOf, 6, (some .int), ({ frames := 6, cells := 0, slots := 0, locals := 148 } : Room), 0, 0, false)
def f_X11_payOf (h0 : AH) (N : Nat) (p0 : Nat) (p1 : Nat) (p2 : Int32) (p3 : Int32) (p4 : Int32) : Option (Int32 × AH) := if kd h0 p0 = 12 + 1 then (f_X11_gaugeOf h0 N p0 p1 p2).bind fun v1 => (if v1 = (-1) then some (0, h0) else (xgr h0 p0 12 7).bind fun v3 => (f_X2_district h0 p1).bind fun v4 => (xia h0 v3 v4).bind fun v5 => (xgr h0 p1 3 4).bind fun v6 => (if kd h0 v6 = 2 then f_X0_kind h0 v6 else if kd h0 v6 = 3 then f_X1_kind h0 v6 else if kd h0 v6 = 6 then f_X4_kind h0 v6 else if kd h0 v6 = 7 then f_X5_kind h0 v6 else none).bind fun v7 => (f_X11_payOn h0 N p0 p3 v1 p2 v5 v7 p4).bind fun q8 => some (q8.1, q8.2)) else none
theorem g_X11_payOf {h0 : AH} {N : Nat} {p0 : Nat} {p1 : Nat} {p2 : Int32} {p3 : Int32} {p4 : Int32} {x : (Int32 × AH)} (e : f_X11_payOf h0 N p0 p1 p2 p3 p4 = some x) : kd h0 p0 = 12 + 1 := by
  unfold f_X11_payOf at e
  by_cases hk : kd h0 p0 = 12 + 1
  · exact hk
  · rw [if_neg hk] at e
    cases e
theorem km_X11_payOf : KM yX11_payOf M_X11_payOf 4 := ⟨in_tb 794 (by decide +kernel) rfl, in_tb 1 (by decide +kernel) rfl, by decide +kernel, rfl, rfl⟩
theorem hm_X11_payOf : M_X11_payOf.2.2.2.2.2.1 = 0 ∧ M_X11_payOf.2.2.2.2.2.2.1 = 0 := ⟨rfl, rfl⟩
section
variable {l : Launch} {g : GG}
end
set_option maxRecDepth 100000 in
set_option maxHeartbeats 4000000 in
theorem c_X11_payOf (l : Launch) (g : GG) (h0 : AH) (N : Nat) (p0 : Nat) (p1 : Nat) (p2 : Int32) (p3 : Int32) (p4 : Int32) : CN l g yX11_payOf M_X11_payOf false [.ref p0, .ref p1, .int p2, .int p3, .int p4] h0 rSi (f_X11_payOf h0 N p0 p1 p2 p3 p4) := by
  refine CN.of (by decide) rfl (fun hh => by first | rfl | cases hh) (Nat.le_of_ble_eq_true rfl) ?_
  unfold f_X11_payOf
  refine a_gd (fun hkd => ?_)
  refine a_aload_n dX11_payOf_0 rfl 0 rfl ?_
  refine a_aload_n dX11_payOf_1 rfl 1 rfl ?_
  refine a_iload_n dX11_payOf_2 rfl 2 rfl ?_
  refine a_cV_Pi (r := p0) (ci := 12) (as := [.ref p1, .int p2]) (st := []) dX11_payOf_3 (c_X11_gaugeOf l g h0 N p0 p1 p2) rfl km_X11_gaugeOf (hm_X11_gaugeOf) rfl (by decide) rfl (fun _ ee => g_X11_gaugeOf ee) w_methodLink_RainCover_272 w_instanceMethod_RainCover_gaugeOf__LRainCover_Farm_I_I w_selects_RainCover_RainCover_gaugeOf__LRainCover_Farm_I_I_RainCover_gaugeOf__LRainCover_Farm_I_I ⟨⟨by decide, by decide⟩, ⟨by decide, by decide⟩⟩ (Nat.le_of_ble_eq_true rfl) (fun v1 => ?_)
  refine a_istore (lc2 := [(5, .int v1), (0, .ref p0), (1, .ref p1), (2, .int p2), (3, .int p3), (4, .int p4)]) dX11_payOf_6 (by decide) rfl ?_
  refine a_iload dX11_payOf_8 0 rfl ?_
  refine a_iconst (v := (-1)) dX11_payOf_10 (by decide) ?_
  refine a_icmp_ne 18 dX11_payOf_11 (by decide) (fun c2 => ?_) (fun c2 => ?_)
  · refine a_iconst (v := 0) dX11_payOf_14 (by decide) ?_
    refine a_goto 44 dX11_payOf_15 (by decide) ?_
    exact a_iret dX11_payOf_44 rfl rfl (by decide) (by decide)
  · refine a_aload_n dX11_payOf_18 rfl 1 rfl ?_
    refine a_iload_n dX11_payOf_19 rfl 4 rfl ?_
    refine a_iload dX11_payOf_20 0 rfl ?_
    refine a_iload_n dX11_payOf_22 rfl 3 rfl ?_
    refine a_aload_n dX11_payOf_23 rfl 1 rfl ?_
    refine a_getr kc12 7 dX11_payOf_24 (by decide) rfl w_fieldLink_RainCover_45 (fun v3 => ?_)
    refine a_aload_n dX11_payOf_27 rfl 2 rfl ?_
    refine a_cV_Pi (r := p1) (ci := 3) (as := []) (st := [.ref v3, .int p2, .int v1, .int p3, .ref p0]) dX11_payOf_28 (c_X2_district l g h0 p1) rfl km_X2_district (hm_X2_district) rfl (by decide) rfl (fun _ ee => g_X2_district ee) w_methodLink_RainCover_286 w_instanceMethod_RainCover_Farm_district___I w_selects_RainCover_Farm_RainCover_Farm_district___I_RainCover_Farm_district___I ⟨⟨by decide, by decide⟩, ⟨by decide, by decide⟩⟩ (Nat.le_of_ble_eq_true rfl) (fun v4 => ?_)
    refine a_iald dX11_payOf_31 (fun v5 => ?_)
    refine a_aload_n dX11_payOf_32 rfl 2 rfl ?_
    refine a_getr kc3 4 dX11_payOf_33 (by decide) rfl w_fieldLink_RainCover_312 (fun v6 => ?_)
    have J9 : ∀ (v7 : Int32), AO l g M_X11_payOf false h0 39 [(5, .int v1), (0, .ref p0), (1, .ref p1), (2, .int p2), (3, .int p3), (4, .int p4)] [.int v7, .int v5, .int p2, .int v1, .int p3, .ref p0] h0 0 0 rSi ((f_X11_payOn h0 N p0 p3 v1 p2 v5 v7 p4).bind fun q8 => some (q8.1, q8.2)) := by
      intro v7
      refine a_iload dX11_payOf_39 5 rfl ?_
      refine a_cV_Si (r := p0) (ci := 12) (as := [.int p3, .int v1, .int p2, .int v5, .int v7, .int p4]) (st := []) dX11_payOf_41 (c_X11_payOn l g h0 N p0 p3 v1 p2 v5 v7 p4) rfl km_X11_payOn (hm_X11_payOn) rfl (by decide) rfl (fun _ ee => g_X11_payOn ee) w_methodLink_RainCover_222 w_instanceMethod_RainCover_payOn__IIIIII_I w_selects_RainCover_RainCover_payOn__IIIIII_I_RainCover_payOn__IIIIII_I ⟨⟨by decide, by decide⟩, ⟨by decide, by decide⟩⟩ (Nat.le_of_ble_eq_true rfl) (fun q8 => ?_)
      exact a_iret dX11_payOf_44 rfl rfl (by decide) (by decide)
    refine a_br (fun e10 => ?_) (fun e10 => ?_)
    · exact a_cU_Pi (r := v6) (ci := 1) (as := []) (st := [.int v5, .int p2, .int v1, .int p3, .ref p0]) dX11_payOf_36 (c_X0_kind l g h0 v6) rfl km_X0_kind (hm_X0_kind) ⟨"RainCover$Crop", "kind", "()I"⟩ "RainCover$Crop" rfl (by decide) (fun _ _ => e10) w_methodLink_RainCover_315 w_sameMethod_RainCover_Crop_RainCover_Crop_kind___I w_instanceMethod_RainCover_Bean_kind___I w_selects_RainCover_Bean_RainCover_Crop_kind___I_RainCover_Bean_kind___I (Or.inr ⟨w_instanceMethod_RainCover_Crop_kind___I, _, _, _, w_code_RainCover_Crop_kind___I⟩) ⟨by decide, by decide, show _ = some 0 from by decide +kernel⟩ ⟨⟨by decide, by decide⟩, ⟨by decide, by decide⟩⟩ (Nat.le_of_ble_eq_true rfl) J9
    · refine a_br (fun e11 => ?_) (fun e11 => ?_)
      · exact a_cV_Pi (r := v6) (ci := 2) (as := []) (st := [.int v5, .int p2, .int v1, .int p3, .ref p0]) dX11_payOf_36 (c_X1_kind l g h0 v6) rfl km_X1_kind (hm_X1_kind) rfl (by decide) rfl (fun _ _ => e11) w_methodLink_RainCover_315 w_instanceMethod_RainCover_Crop_kind___I w_selects_RainCover_Crop_RainCover_Crop_kind___I_RainCover_Crop_kind___I ⟨⟨by decide, by decide⟩, ⟨by decide, by decide⟩⟩ (Nat.le_of_ble_eq_true rfl) J9
      · refine a_br (fun e12 => ?_) (fun e12 => ?_)
        · exact a_cU_Pi (r := v6) (ci := 5) (as := []) (st := [.int v5, .int p2, .int v1, .int p3, .ref p0]) dX11_payOf_36 (c_X4_kind l g h0 v6) rfl km_X4_kind (hm_X4_kind) ⟨"RainCover$Crop", "kind", "()I"⟩ "RainCover$Crop" rfl (by decide) (fun _ _ => e12) w_methodLink_RainCover_315 w_sameMethod_RainCover_Crop_RainCover_Crop_kind___I w_instanceMethod_RainCover_Grain_kind___I w_selects_RainCover_Grain_RainCover_Crop_kind___I_RainCover_Grain_kind___I (Or.inr ⟨w_instanceMethod_RainCover_Crop_kind___I, _, _, _, w_code_RainCover_Crop_kind___I⟩) ⟨by decide, by decide, show _ = some 0 from by decide +kernel⟩ ⟨⟨by decide, by decide⟩, ⟨by decide, by decide⟩⟩ (Nat.le_of_ble_eq_true rfl) J9
        · refine a_br (fun e13 => ?_) (fun e13 => ?_)
          · exact a_cU_Pi (r := v6) (ci := 6) (as := []) (st := [.int v5, .int p2, .int v1, .int p3, .ref p0]) dX11_payOf_36 (c_X5_kind l g h0 v6) rfl km_X5_kind (hm_X5_kind) ⟨"RainCover$Crop", "kind", "()I"⟩ "RainCover$Crop" rfl (by decide) (fun _ _ => e13) w_methodLink_RainCover_315 w_sameMethod_RainCover_Crop_RainCover_Crop_kind___I w_instanceMethod_RainCover_Maize_kind___I w_selects_RainCover_Maize_RainCover_Crop_kind___I_RainCover_Maize_kind___I (Or.inr ⟨w_instanceMethod_RainCover_Crop_kind___I, _, _, _, w_code_RainCover_Crop_kind___I⟩) ⟨by decide, by decide, show _ = some 0 from by decide +kernel⟩ ⟨⟨by decide, by decide⟩, ⟨by decide, by decide⟩⟩ (Nat.le_of_ble_eq_true rfl) J9
          · exact a_nb
theorem dX11_of_0 : decode cX11_of 0 = .ok (.aload_n 0, 1) := by decide +kernel
theorem dX11_of_1 : decode cX11_of 1 = .ok (.iload_n 1, 1) := by decide +kernel
theorem dX11_of_2 : decode cX11_of 2 = .ok (.invokevirtual 254, 3) := by decide +kernel
theorem dX11_of_5 : decode cX11_of 5 = .ok (.ifCond .eq 10, 3) := by decide +kernel
theorem dX11_of_8 : decode cX11_of 8 = .ok (.iload_n 2, 1) := by decide +kernel
theorem dX11_of_9 : decode cX11_of 9 = .ok (.invokestatic 100, 3) := by decide +kernel
theorem dX11_of_12 : decode cX11_of 12 = .ok (.ifCond .ne 6, 3) := by decide +kernel
theorem dX11_of_15 : decode cX11_of 15 = .ok (.bipush (-5), 2) := by decide +kernel
theorem dX11_of_17 : decode cX11_of 17 = .ok (.ireturn, 1) := by decide +kernel
theorem dX11_of_18 : decode cX11_of 18 = .ok (.aload_n 0, 1) := by decide +kernel
theorem dX11_of_19 : decode cX11_of 19 = .ok (.getfield 21, 3) := by decide +kernel
theorem dX11_of_22 : decode cX11_of 22 = .ok (.iload_n 1, 1) := by decide +kernel
theorem dX11_of_23 : decode cX11_of 23 = .ok (.invokevirtual 124, 3) := by decide +kernel
theorem dX11_of_26 : decode cX11_of 26 = .ok (.checkcast 233, 3) := by decide +kernel
theorem dX11_of_29 : decode cX11_of 29 = .ok (.astore 4, 2) := by decide +kernel
theorem dX11_of_31 : decode cX11_of 31 = .ok (.iload_n 3, 1) := by decide +kernel
theorem dX11_of_32 : decode cX11_of 32 = .ok (.tableswitch 109 0 5 #[40, 48, 55, 63, 95, 101], 40) := by decide +kernel
theorem dX11_of_72 : decode cX11_of 72 = .ok (.aload_n 0, 1) := by decide +kernel
theorem dX11_of_73 : decode cX11_of 73 = .ok (.aload 4, 2) := by decide +kernel
theorem dX11_of_75 : decode cX11_of 75 = .ok (.iload_n 2, 1) := by decide +kernel
theorem dX11_of_76 : decode cX11_of 76 = .ok (.invokevirtual 272, 3) := by decide +kernel
theorem dX11_of_79 : decode cX11_of 79 = .ok (.ireturn, 1) := by decide +kernel
theorem dX11_of_80 : decode cX11_of 80 = .ok (.aload_n 0, 1) := by decide +kernel
theorem dX11_of_81 : decode cX11_of 81 = .ok (.iload_n 1, 1) := by decide +kernel
theorem dX11_of_82 : decode cX11_of 82 = .ok (.iload_n 2, 1) := by decide +kernel
theorem dX11_of_83 : decode cX11_of 83 = .ok (.invokevirtual 276, 3) := by decide +kernel
theorem dX11_of_86 : decode cX11_of 86 = .ok (.ireturn, 1) := by decide +kernel
theorem dX11_of_87 : decode cX11_of 87 = .ok (.aload_n 0, 1) := by decide +kernel
theorem dX11_of_88 : decode cX11_of 88 = .ok (.aload 4, 2) := by decide +kernel
theorem dX11_of_90 : decode cX11_of 90 = .ok (.iload_n 2, 1) := by decide +kernel
theorem dX11_of_91 : decode cX11_of 91 = .ok (.invokevirtual 279, 3) := by decide +kernel
theorem dX11_of_94 : decode cX11_of 94 = .ok (.ireturn, 1) := by decide +kernel
theorem dX11_of_95 : decode cX11_of 95 = .ok (.aload_n 0, 1) := by decide +kernel
theorem dX11_of_96 : decode cX11_of 96 = .ok (.iload_n 1, 1) := by decide +kernel
theorem dX11_of_97 : decode cX11_of 97 = .ok (.iload_n 2, 1) := by decide +kernel
theorem dX11_of_98 : decode cX11_of 98 = .ok (.invokevirtual 257, 3) := by decide +kernel
theorem dX11_of_101 : decode cX11_of 101 = .ok (.iconst (-1), 1) := by decide +kernel
theorem dX11_of_102 : decode cX11_of 102 = .ok (.if_icmp .ne 7, 3) := by decide +kernel
theorem dX11_of_105 : decode cX11_of 105 = .ok (.iconst (-1), 1) := by decide +kernel
theorem dX11_of_106 : decode cX11_of 106 = .ok (.goto 20, 3) := by decide +kernel
theorem dX11_of_109 : decode cX11_of 109 = .ok (.aload_n 0, 1) := by decide +kernel
theorem dX11_of_110 : decode cX11_of 110 = .ok (.aload 4, 2) := by decide +kernel
theorem dX11_of_112 : decode cX11_of 112 = .ok (.iload_n 2, 1) := by decide +kernel
theorem dX11_of_113 : decode cX11_of 113 = .ok (.aload_n 0, 1) := by decide +kernel
theorem dX11_of_114 : decode cX11_of 114 = .ok (.iload_n 1, 1) := by decide +kernel
theorem dX11_of_115 : decode cX11_of 115 = .ok (.iload_n 2, 1) := by decide +kernel
theorem dX11_of_116 : decode cX11_of 116 = .ok (.invokevirtual 276, 3) := by decide +kernel
theorem dX11_of_119 : decode cX11_of 119 = .ok (.aload_n 0, 1) := by decide +kernel
theorem dX11_of_120 : decode cX11_of 120 = .ok (.invokevirtual 179, 3) := by decide +kernel
theorem dX11_of_123 : decode cX11_of 123 = .ok (.invokevirtual 282, 3) := by decide +kernel
theorem dX11_of_126 : decode cX11_of 126 = .ok (.ireturn, 1) := by decide +kernel
theorem dX11_of_127 : decode cX11_of 127 = .ok (.aload 4, 2) := by decide +kernel
theorem dX11_of_129 : decode cX11_of 129 = .ok (.invokevirtual 286, 3) := by decide +kernel
theorem dX11_of_132 : decode cX11_of 132 = .ok (.ireturn, 1) := by decide +kernel
theorem dX11_of_133 : decode cX11_of 133 = .ok (.aload 4, 2) := by decide +kernel
theorem dX11_of_135 : decode cX11_of 135 = .ok (.getfield 289, 3) := by decide +kernel
theorem dX11_of_138 : decode cX11_of 138 = .ok (.iload_n 2, 1) := by decide +kernel
theorem dX11_of_139 : decode cX11_of 139 = .ok (.iaload, 1) := by decide +kernel
theorem dX11_of_140 : decode cX11_of 140 = .ok (.ireturn, 1) := by decide +kernel
theorem dX11_of_141 : decode cX11_of 141 = .ok (.bipush (-5), 2) := by decide +kernel
theorem dX11_of_143 : decode cX11_of 143 = .ok (.ireturn, 1) := by decide +kernel
abbrev M_X11_of : MI := (RX11, cX11_of, 5, (some .int), ({ frames := 7, cells := 0, slots := 0, locals := 173 } : Room), 0, 0, false)
def f_X11_of (h0 : AH) (N : Nat) (p0 : Nat) (p1 : Int32) (p2 : Int32) (p3 : Int32) : Option (Int32 × AH) := if kd h0 p0 = 12 + 1 then (f_X11_isFarm h0 p0 p1).bind fun v1 => (if v1 = 0 then some ((-5), h0) else (f_X11_isSeason h0 p2).bind fun v3 => (if v3 = 0 then some ((-5), h0) else (xgr h0 p0 12 2).bind fun v5 => (f_Jx4a65c_get_915e3 h0 v5 p1).bind fun v6 => (xcc h0 v6 3).bind fun _ => (if p3 = 0 then (f_X11_gaugeOf h0 N p0 v6 p2).bind fun v8 => some (v8, h0) else (if p3 = 1 then (f_X11_termOf h0 N p0 p1 p2).bind fun v10 => some (v10, h0) else (if p3 = 2 then (f_X11_distanceToGauge h0 N p0 v6 p2).bind fun v12 => some (v12, h0) else (if p3 = 3 then (f_X11_coverOf h0 N p0 p1 p2).bind fun v14 => (if v14 = (-1) then some ((-1), h0) else (f_X11_termOf h0 N p0 p1 p2).bind fun v16 => (f_X11_now h0 p0).bind fun v17 => (f_X11_payOf h0 N p0 v6 p2 v16 v17).bind fun q18 => some (q18.1, q18.2)) else (if p3 = 4 then (f_X2_district h0 v6).bind fun v20 => some (v20, h0) else (if p3 = 5 then (xgr h0 v6 3 5).bind fun v22 => (xia h0 v22 p2).bind fun v23 => some (v23, h0) else some ((-5), h0))))))))) else none
theorem g_X11_of {h0 : AH} {N : Nat} {p0 : Nat} {p1 : Int32} {p2 : Int32} {p3 : Int32} {x : (Int32 × AH)} (e : f_X11_of h0 N p0 p1 p2 p3 = some x) : kd h0 p0 = 12 + 1 := by
  unfold f_X11_of at e
  by_cases hk : kd h0 p0 = 12 + 1
  · exact hk
  · rw [if_neg hk] at e
    cases e
theorem km_X11_of : KM yX11_of M_X11_of 3 := ⟨in_tb 774 (by decide +kernel) rfl, in_tb 1 (by decide +kernel) rfl, by decide +kernel, rfl, rfl⟩
theorem hm_X11_of : M_X11_of.2.2.2.2.2.1 = 0 ∧ M_X11_of.2.2.2.2.2.2.1 = 0 := ⟨rfl, rfl⟩
section
variable {l : Launch} {g : GG}
end
set_option maxRecDepth 100000 in
set_option maxHeartbeats 4000000 in
theorem c_X11_of (l : Launch) (g : GG) (h0 : AH) (N : Nat) (p0 : Nat) (p1 : Int32) (p2 : Int32) (p3 : Int32) : CN l g yX11_of M_X11_of false [.ref p0, .int p1, .int p2, .int p3] h0 rSi (f_X11_of h0 N p0 p1 p2 p3) := by
  refine CN.of (by decide) rfl (fun hh => by first | rfl | cases hh) (Nat.le_of_ble_eq_true rfl) ?_
  unfold f_X11_of
  refine a_gd (fun hkd => ?_)
  refine a_aload_n dX11_of_0 rfl 0 rfl ?_
  refine a_iload_n dX11_of_1 rfl 1 rfl ?_
  refine a_cV_Pi (r := p0) (ci := 12) (as := [.int p1]) (st := []) dX11_of_2 (c_X11_isFarm l g h0 p0 p1) rfl km_X11_isFarm (hm_X11_isFarm) rfl (by decide) rfl (fun _ ee => g_X11_isFarm ee) w_methodLink_RainCover_254 w_instanceMethod_RainCover_isFarm__I_Z w_selects_RainCover_RainCover_isFarm__I_Z_RainCover_isFarm__I_Z ⟨⟨by decide, by decide⟩, ⟨by decide, by decide⟩⟩ (Nat.le_of_ble_eq_true rfl) (fun v1 => ?_)
  refine a_if_eq 15 dX11_of_5 (by decide) (fun c2 => ?_) (fun c2 => ?_)
  · refine a_bipush (v := (-5)) dX11_of_15 (by decide) ?_
    exact a_iret dX11_of_17 rfl rfl (by decide) (by decide)
  · refine a_iload_n dX11_of_8 rfl 2 rfl ?_
    refine a_cS_Pi (as := [.int p2]) (st := []) dX11_of_9 (c_X11_isSeason l g h0 p2) rfl km_X11_isSeason (hm_X11_isSeason) w_methodLink_RainCover_100 w_static_RainCover_isSeason__I_Z ⟨⟨by decide, by decide⟩, ⟨by decide, by decide⟩⟩ (Nat.le_of_ble_eq_true rfl) (fun v3 => ?_)
    refine a_if_ne 18 dX11_of_12 (by decide) (fun c4 => ?_) (fun c4 => ?_)
    · refine a_bipush (v := (-5)) dX11_of_15 (by decide) ?_
      exact a_iret dX11_of_17 rfl rfl (by decide) (by decide)
    · refine a_aload_n dX11_of_18 rfl 0 rfl ?_
      refine a_getr kc12 2 dX11_of_19 (by decide) rfl w_fieldLink_RainCover_21 (fun v5 => ?_)
      refine a_iload_n dX11_of_22 rfl 1 rfl ?_
      refine a_cV_Pr (r := v5) (ci := 0) (as := [.int p1]) (st := []) dX11_of_23 (c_Jx4a65c_get_915e3 l g h0 v5 p1) rfl km_Jx4a65c_get_915e3 (hm_Jx4a65c_get_915e3) rfl (by decide) rfl (fun _ ee => g_Jx4a65c_get_915e3 ee) w_methodLink_RainCover_124 w_instanceMethod_java_util_ArrayList_get__I_Ljava_lang_Object_ w_selects_java_util_ArrayList_java_util_ArrayList_get__I_Ljava_lang_Object__java_util_ArrayList_get__I_Ljava_lang_Object_ ⟨⟨by decide, by decide⟩, ⟨by decide, by decide⟩⟩ (Nat.le_of_ble_eq_true rfl) (fun v6 => ?_)
      refine a_cast kc3 dX11_of_26 w_classLink_RainCover_233 ?_
      refine a_astore (lc2 := [(4, .ref v6), (0, .ref p0), (1, .int p1), (2, .int p2), (3, .int p3)]) dX11_of_29 (by decide) rfl ?_
      refine a_iload_n dX11_of_31 rfl 4 rfl ?_
      refine a_swt (v := 0) 72 dX11_of_32 (by decide) (by decide) (fun c7 => ?_) (fun c7 => ?_)
      · refine a_aload_n dX11_of_72 rfl 1 rfl ?_
        refine a_aload dX11_of_73 0 rfl ?_
        refine a_iload_n dX11_of_75 rfl 3 rfl ?_
        refine a_cV_Pi (r := p0) (ci := 12) (as := [.ref v6, .int p2]) (st := []) dX11_of_76 (c_X11_gaugeOf l g h0 N p0 v6 p2) rfl km_X11_gaugeOf (hm_X11_gaugeOf) rfl (by decide) rfl (fun _ ee => g_X11_gaugeOf ee) w_methodLink_RainCover_272 w_instanceMethod_RainCover_gaugeOf__LRainCover_Farm_I_I w_selects_RainCover_RainCover_gaugeOf__LRainCover_Farm_I_I_RainCover_gaugeOf__LRainCover_Farm_I_I ⟨⟨by decide, by decide⟩, ⟨by decide, by decide⟩⟩ (Nat.le_of_ble_eq_true rfl) (fun v8 => ?_)
        exact a_iret dX11_of_79 rfl rfl (by decide) (by decide)
      refine a_swt (v := 1) 80 dX11_of_32 (by decide) (by decide) (fun c9 => ?_) (fun c9 => ?_)
      · refine a_aload_n dX11_of_80 rfl 1 rfl ?_
        refine a_iload_n dX11_of_81 rfl 2 rfl ?_
        refine a_iload_n dX11_of_82 rfl 3 rfl ?_
        refine a_cV_Pi (r := p0) (ci := 12) (as := [.int p1, .int p2]) (st := []) dX11_of_83 (c_X11_termOf l g h0 N p0 p1 p2) rfl km_X11_termOf (hm_X11_termOf) rfl (by decide) rfl (fun _ ee => g_X11_termOf ee) w_methodLink_RainCover_276 w_instanceMethod_RainCover_termOf__II_I w_selects_RainCover_RainCover_termOf__II_I_RainCover_termOf__II_I ⟨⟨by decide, by decide⟩, ⟨by decide, by decide⟩⟩ (Nat.le_of_ble_eq_true rfl) (fun v10 => ?_)
        exact a_iret dX11_of_86 rfl rfl (by decide) (by decide)
      refine a_swt (v := 2) 87 dX11_of_32 (by decide) (by decide) (fun c11 => ?_) (fun c11 => ?_)
      · refine a_aload_n dX11_of_87 rfl 1 rfl ?_
        refine a_aload dX11_of_88 0 rfl ?_
        refine a_iload_n dX11_of_90 rfl 3 rfl ?_
        refine a_cV_Pi (r := p0) (ci := 12) (as := [.ref v6, .int p2]) (st := []) dX11_of_91 (c_X11_distanceToGauge l g h0 N p0 v6 p2) rfl km_X11_distanceToGauge (hm_X11_distanceToGauge) rfl (by decide) rfl (fun _ ee => g_X11_distanceToGauge ee) w_methodLink_RainCover_279 w_instanceMethod_RainCover_distanceToGauge__LRainCover_Farm_I_I w_selects_RainCover_RainCover_distanceToGauge__LRainCover_Farm_I_I_RainCover_distanceToGauge__LRainCover_Farm_I_I ⟨⟨by decide, by decide⟩, ⟨by decide, by decide⟩⟩ (Nat.le_of_ble_eq_true rfl) (fun v12 => ?_)
        exact a_iret dX11_of_94 rfl rfl (by decide) (by decide)
      refine a_swt (v := 3) 95 dX11_of_32 (by decide) (by decide) (fun c13 => ?_) (fun c13 => ?_)
      · refine a_aload_n dX11_of_95 rfl 1 rfl ?_
        refine a_iload_n dX11_of_96 rfl 2 rfl ?_
        refine a_iload_n dX11_of_97 rfl 3 rfl ?_
        refine a_cV_Pi (r := p0) (ci := 12) (as := [.int p1, .int p2]) (st := []) dX11_of_98 (c_X11_coverOf l g h0 N p0 p1 p2) rfl km_X11_coverOf (hm_X11_coverOf) rfl (by decide) rfl (fun _ ee => g_X11_coverOf ee) w_methodLink_RainCover_257 w_instanceMethod_RainCover_coverOf__II_I w_selects_RainCover_RainCover_coverOf__II_I_RainCover_coverOf__II_I ⟨⟨by decide, by decide⟩, ⟨by decide, by decide⟩⟩ (Nat.le_of_ble_eq_true rfl) (fun v14 => ?_)
        refine a_iconst (v := (-1)) dX11_of_101 (by decide) ?_
        refine a_icmp_ne 109 dX11_of_102 (by decide) (fun c15 => ?_) (fun c15 => ?_)
        · refine a_iconst (v := (-1)) dX11_of_105 (by decide) ?_
          refine a_goto 126 dX11_of_106 (by decide) ?_
          exact a_iret dX11_of_126 rfl rfl (by decide) (by decide)
        · refine a_aload_n dX11_of_109 rfl 1 rfl ?_
          refine a_aload dX11_of_110 0 rfl ?_
          refine a_iload_n dX11_of_112 rfl 3 rfl ?_
          refine a_aload_n dX11_of_113 rfl 1 rfl ?_
          refine a_iload_n dX11_of_114 rfl 2 rfl ?_
          refine a_iload_n dX11_of_115 rfl 3 rfl ?_
          refine a_cV_Pi (r := p0) (ci := 12) (as := [.int p1, .int p2]) (st := [.int p2, .ref v6, .ref p0]) dX11_of_116 (c_X11_termOf l g h0 N p0 p1 p2) rfl km_X11_termOf (hm_X11_termOf) rfl (by decide) rfl (fun _ ee => g_X11_termOf ee) w_methodLink_RainCover_276 w_instanceMethod_RainCover_termOf__II_I w_selects_RainCover_RainCover_termOf__II_I_RainCover_termOf__II_I ⟨⟨by decide, by decide⟩, ⟨by decide, by decide⟩⟩ (Nat.le_of_ble_eq_true rfl) (fun v16 => ?_)
          refine a_aload_n dX11_of_119 rfl 1 rfl ?_
          refine a_cV_Pi (r := p0) (ci := 12) (as := []) (st := [.int v16, .int p2, .ref v6, .ref p0]) dX11_of_120 (c_X11_now l g h0 p0) rfl km_X11_now (hm_X11_now) rfl (by decide) rfl (fun _ ee => g_X11_now ee) w_methodLink_RainCover_179 w_instanceMethod_RainCover_now___I w_selects_RainCover_RainCover_now___I_RainCover_now___I ⟨⟨by decide, by decide⟩, ⟨by decide, by decide⟩⟩ (Nat.le_of_ble_eq_true rfl) (fun v17 => ?_)
          refine a_cV_Si (r := p0) (ci := 12) (as := [.ref v6, .int p2, .int v16, .int v17]) (st := []) dX11_of_123 (c_X11_payOf l g h0 N p0 v6 p2 v16 v17) rfl km_X11_payOf (hm_X11_payOf) rfl (by decide) rfl (fun _ ee => g_X11_payOf ee) w_methodLink_RainCover_282 w_instanceMethod_RainCover_payOf__LRainCover_Farm_III_I w_selects_RainCover_RainCover_payOf__LRainCover_Farm_III_I_RainCover_payOf__LRainCover_Farm_III_I ⟨⟨by decide, by decide⟩, ⟨by decide, by decide⟩⟩ (Nat.le_of_ble_eq_true rfl) (fun q18 => ?_)
          exact a_iret dX11_of_126 rfl rfl (by decide) (by decide)
      refine a_swt (v := 4) 127 dX11_of_32 (by decide) (by decide) (fun c19 => ?_) (fun c19 => ?_)
      · refine a_aload dX11_of_127 0 rfl ?_
        refine a_cV_Pi (r := v6) (ci := 3) (as := []) (st := []) dX11_of_129 (c_X2_district l g h0 v6) rfl km_X2_district (hm_X2_district) rfl (by decide) rfl (fun _ ee => g_X2_district ee) w_methodLink_RainCover_286 w_instanceMethod_RainCover_Farm_district___I w_selects_RainCover_Farm_RainCover_Farm_district___I_RainCover_Farm_district___I ⟨⟨by decide, by decide⟩, ⟨by decide, by decide⟩⟩ (Nat.le_of_ble_eq_true rfl) (fun v20 => ?_)
        exact a_iret dX11_of_132 rfl rfl (by decide) (by decide)
      refine a_swt (v := 5) 133 dX11_of_32 (by decide) (by decide) (fun c21 => ?_) (fun c21 => ?_)
      · refine a_aload dX11_of_133 0 rfl ?_
        refine a_getr kc3 5 dX11_of_135 (by decide) rfl w_fieldLink_RainCover_289 (fun v22 => ?_)
        refine a_iload_n dX11_of_138 rfl 3 rfl ?_
        refine a_iald dX11_of_139 (fun v23 => ?_)
        exact a_iret dX11_of_140 rfl rfl (by decide) (by decide)
      refine a_swtd (vs := [0, 1, 2, 3, 4, 5]) 141 dX11_of_32 (by decide) (by decide) (List.forall_mem_cons.mpr ⟨c7, List.forall_mem_cons.mpr ⟨c9, List.forall_mem_cons.mpr ⟨c11, List.forall_mem_cons.mpr ⟨c13, List.forall_mem_cons.mpr ⟨c19, List.forall_mem_cons.mpr ⟨c21, fun _ hh => absurd hh List.not_mem_nil⟩⟩⟩⟩⟩⟩) ?_
      refine a_bipush (v := (-5)) dX11_of_141 (by decide) ?_
      exact a_iret dX11_of_143 rfl rfl (by decide) (by decide)
