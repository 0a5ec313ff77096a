set_option maxRecDepth 100000 in
set_option maxHeartbeats 40000000 in
theorem start_env {p : Program} {s : State} {m : MethodId} {meth : Method} {c : Code} {b L : Nat} {xs : Nat → Int32} (C0 : lw_At p s m meth c b L xs) : ∃ g : GG, gbase g = s.heap.size ∧ groA g 0 = b ∧ groN g 0 = L ∧ groF g 0 = xs ∧ groN g 1 = 4 ∧ groN g 2 = 4 ∧ (groF g 1 = fun j => ([100, 80, 120, 60] : List Int32).getD j 0) ∧ (groF g 2 = fun j => ([198, 9999, 300, 100] : List Int32).getD j 0) ∧ KK g s := by
  obtain ⟨hx, hb, hr, hml, hown, hts, hX, hbl, hlocks, hgv⟩ := id C0
  have htU : ∀ w ∈ UW, w.before #[Value.ref b] s = true := fun w hw => hts w (List.mem_filter.mp hw).1
  have hA : ∀ a : Nat, a < s.heap.size → ¬ (fun q : Nat => s.heap.size ≤ q) a := fun a h h2 => absurd h2 (by show ¬ s.heap.size ≤ a; omega)
  have hs := flat_of_before _ hgv
  obtain ⟨c0, i0, hk0⟩ := u_known (C := RJx4a65c) (T := TJx4a65c) (N := 3) (n := 3) (ws := UW) htU kc0.2.2.2.1 (hts (.instantiable RJx4a65c 3) (List.mem_append_right _ (List.mem_of_getElem? (i := 36) (by decide +kernel))))
  obtain ⟨c1, i1, hk1⟩ := u_known (C := RX0) (T := TX0) (N := 4) (n := 4) (ws := UW) htU kc1.2.2.2.1 (hts (.instantiable RX0 4) (List.mem_append_right _ (List.mem_of_getElem? (i := 676) (by decide +kernel))))
  obtain ⟨c2, i2, hk2⟩ := u_known (C := RX1) (T := TX1) (N := 4) (n := 4) (ws := UW) htU kc2.2.2.2.1 (hts (.instantiable RX1 4) (List.mem_append_right _ (List.mem_of_getElem? (i := 687) (by decide +kernel))))
  obtain ⟨c3, i3, hk3⟩ := u_known (C := RX2) (T := TX2) (N := 9) (n := 9) (ws := UW) htU kc3.2.2.2.1 (hts (.instantiable RX2 9) (List.mem_append_right _ (List.mem_of_getElem? (i := 634) (by decide +kernel))))
  obtain ⟨c4, i4, hk4⟩ := u_known (C := RX3) (T := TX3) (N := 4) (n := 4) (ws := UW) htU kc4.2.2.2.1 (hts (.instantiable RX3 4) (List.mem_append_right _ (List.mem_of_getElem? (i := 222) (by decide +kernel))))
  obtain ⟨c5, i5, hk5⟩ := u_known (C := RX4) (T := TX4) (N := 4) (n := 4) (ws := UW) htU kc5.2.2.2.1 (hts (.instantiable RX4 4) (List.mem_append_right _ (List.mem_of_getElem? (i := 639) (by decide +kernel))))
  obtain ⟨c6, i6, hk6⟩ := u_known (C := RX5) (T := TX5) (N := 4) (n := 4) (ws := UW) htU kc6.2.2.2.1 (hts (.instantiable RX5 4) (List.mem_append_right _ (List.mem_of_getElem? (i := 665) (by decide +kernel))))
  obtain ⟨c7, i7, hk7⟩ := u_known (C := RX6) (T := TX6) (N := 3) (n := 3) (ws := UW) htU kc7.2.2.2.1 (hts (.instantiable RX6 3) (List.mem_append_right _ (List.mem_of_getElem? (i := 126) (by decide +kernel))))
  obtain ⟨c8, i8, hk8⟩ := u_known (C := RX7) (T := TX7) (N := 4) (n := 4) (ws := UW) htU kc8.2.2.2.1 (hts (.instantiable RX7 4) (List.mem_append_right _ (List.mem_of_getElem? (i := 105) (by decide +kernel))))
  obtain ⟨c9, i9, hk9⟩ := u_known (C := RX8) (T := TX8) (N := 4) (n := 4) (ws := UW) htU kc9.2.2.2.1 (hts (.instantiable RX8 4) (List.mem_append_right _ (List.mem_of_getElem? (i := 83) (by decide +kernel))))
  obtain ⟨c10, i10, hk10⟩ := u_known (C := RX9) (T := TX9) (N := 4) (n := 4) (ws := UW) htU kc10.2.2.2.1 (hts (.instantiable RX9 4) (List.mem_append_right _ (List.mem_of_getElem? (i := 62) (by decide +kernel))))
  obtain ⟨c11, i11, hk11⟩ := u_known (C := RX10) (T := TX10) (N := 11) (n := 11) (ws := UW) htU kc11.2.2.2.1 (hts (.instantiable RX10 11) (List.mem_append_right _ (List.mem_of_getElem? (i := 447) (by decide +kernel))))
  obtain ⟨c12, i12, hk12⟩ := u_known (C := RX11) (T := TX11) (N := 20) (n := 20) (ws := UW) htU kc12.2.2.2.1 (hts (.instantiable RX11 20) (List.mem_append_right _ (List.mem_of_getElem? (i := 28) (by decide +kernel))))
  obtain ⟨c13, i13, hk13⟩ := u_known (C := RX12) (T := TX12) (N := 77) (n := 77) (ws := UW) htU kc13.2.2.2.1 (hts (.instantiable RX12 77) (List.mem_append_right _ (List.mem_of_getElem? (i := 1187) (by decide +kernel))))
  obtain ⟨a0, ka0, ca0, x01, x02, x03⟩ := Cond.arrayClass_spec (hts (.arrayClass .int) (List.mem_append_right _ (List.mem_of_getElem? (i := 81) (by decide +kernel))))
  obtain ⟨a1, ka1, ca1, x11, x12, x13⟩ := Cond.arrayClass_spec (hts (.arrayClass .boolean) (List.mem_append_right _ (List.mem_of_getElem? (i := 497) (by decide +kernel))))
  obtain ⟨a2, ka2, ca2, x21, x22, x23⟩ := Cond.arrayClass_spec (hts (.arrayClass .byte) (List.mem_append_right _ (List.mem_of_getElem? (i := 103) (by decide +kernel))))
  have hO := (hts (.arrayOver (.object "java/lang/Object")) (List.mem_append_right _ (List.mem_of_getElem? (i := 294) (by decide +kernel))))
  have hSh := (hts (.arrayOver (.object "RainCover$Sheet")) (List.mem_append_right _ (List.mem_of_getElem? (i := 125) (by decide +kernel))))
  obtain ⟨co3, a3, ka3, x31, -, x32, x33, x34⟩ := Cond.arrayOver_spec hO
  obtain ⟨co4, a4, ka4, x41, -, x42, x43, x44⟩ := Cond.arrayOver_spec hSh
  obtain ⟨tD, eD, hTD⟩ := va_Tof (args := #[Value.ref b]) (s := s) (tm := (.static "RainCover" "DRYNESS" "[I")) (ty := .int) (N := 4) (f := fun j => .int (([100, 80, 120, 60] : List Int32).getD j 0)) (A := fun q : Nat => s.heap.size ≤ q) (by decide) (hs (.arrayOf (.static "RainCover" "DRYNESS" "[I") .int) (by decide +kernel)) (va_eqt (hs (.eq (.length (.static "RainCover" "DRYNESS" "[I")) (.int 4)) (by decide +kernel))) (fun j hj => by
    rcases (show j = 0 ∨ j = 1 ∨ j = 2 ∨ j = 3 by omega) with rfl | rfl | rfl | rfl
    · exact va_eqt (hs (.eq (.elem (.static "RainCover" "DRYNESS" "[I") (.int 0)) (.int 100)) (by decide +kernel))
    · exact va_eqt (hs (.eq (.elem (.static "RainCover" "DRYNESS" "[I") (.int 1)) (.int  80)) (by decide +kernel))
    · exact va_eqt (hs (.eq (.elem (.static "RainCover" "DRYNESS" "[I") (.int 2)) (.int  120)) (by decide +kernel))
    · exact va_eqt (hs (.eq (.elem (.static "RainCover" "DRYNESS" "[I") (.int 3)) (.int  60)) (by decide +kernel))) hA
  have hZD := va_Zref (A := fun q : Nat => s.heap.size ≤ q) (hts (.laysStatic "RainCover" "DRYNESS" "[I") (List.mem_append_right _ (List.mem_of_getElem? (i := 606) (by decide +kernel)))) (hts (.initialized "RainCover") (List.mem_append_right _ (List.mem_of_getElem? (i := 1) (by decide +kernel)))) eD hA
  obtain ⟨tM, eM, hTM⟩ := va_Tof (args := #[Value.ref b]) (s := s) (tm := (.static "RainCover" "MOST_LAW" "[I")) (ty := .int) (N := 4) (f := fun j => .int (([198, 9999, 300, 100] : List Int32).getD j 0)) (A := fun q : Nat => s.heap.size ≤ q) (by decide) (hs (.arrayOf (.static "RainCover" "MOST_LAW" "[I") .int) (by decide +kernel)) (va_eqt (hs (.eq (.length (.static "RainCover" "MOST_LAW" "[I")) (.int 4)) (by decide +kernel))) (fun j hj => by
    rcases (show j = 0 ∨ j = 1 ∨ j = 2 ∨ j = 3 by omega) with rfl | rfl | rfl | rfl
    · exact va_eqt (hs (.eq (.elem (.static "RainCover" "MOST_LAW" "[I") (.int 0)) (.int 198)) (by decide +kernel))
    · exact va_eqt (hs (.eq (.elem (.static "RainCover" "MOST_LAW" "[I") (.int 1)) (.int  9999)) (by decide +kernel))
    · exact va_eqt (hs (.eq (.elem (.static "RainCover" "MOST_LAW" "[I") (.int 2)) (.int  300)) (by decide +kernel))
    · exact va_eqt (hs (.eq (.elem (.static "RainCover" "MOST_LAW" "[I") (.int 3)) (.int  100)) (by decide +kernel))) hA
  have hZM := va_Zref (A := fun q : Nat => s.heap.size ≤ q) (hts (.laysStatic "RainCover" "MOST_LAW" "[I") (List.mem_append_right _ (List.mem_of_getElem? (i := 331) (by decide +kernel)))) (hts (.initialized "RainCover") (List.mem_append_right _ (List.mem_of_getElem? (i := 1) (by decide +kernel)))) eM hA
  obtain ⟨tE, eE, hTE⟩ := va_Tof (args := #[Value.ref b]) (s := s) (tm := (.static "java/util/ArrayList" "DEFAULTCAPACITY_EMPTY_ELEMENTDATA" "[Ljava/lang/Object;")) (ty := .object "java/lang/Object") (N := 0) (f := fun _ => .null) (A := fun q : Nat => s.heap.size ≤ q) (by decide) (hs (.arrayOf (.static "java/util/ArrayList" "DEFAULTCAPACITY_EMPTY_ELEMENTDATA" "[Ljava/lang/Object;") (.object "java/lang/Object")) (by decide +kernel)) (va_eqt (hs (.eq (.length (.static "java/util/ArrayList" "DEFAULTCAPACITY_EMPTY_ELEMENTDATA" "[Ljava/lang/Object;")) (.int 0)) (by decide +kernel))) (fun j hj => by omega) hA
  have hZE := va_Zref (A := fun q : Nat => s.heap.size ≤ q) (hts (.laysStatic "java/util/ArrayList" "DEFAULTCAPACITY_EMPTY_ELEMENTDATA" "[Ljava/lang/Object;") (List.mem_append_right _ (List.mem_of_getElem? (i := 48) (by decide +kernel)))) (hts (.initialized "java/util/ArrayList") (List.mem_append_right _ (List.mem_of_getElem? (i := 4) (by decide +kernel)))) eE hA
  have hZC := va_Zof (A := fun q : Nat => s.heap.size ≤ q) (hts (.laysStatic "java/lang/String" "COMPACT_STRINGS" "Z") (List.mem_append_right _ (List.mem_of_getElem? (i := 520) (by decide +kernel)))) (hts (.initialized "java/lang/String") (List.mem_append_right _ (List.mem_of_getElem? (i := 18) (by decide +kernel)))) (va_eqt (hs (.eq (.static "java/lang/String" "COMPACT_STRINGS" "Z") (.int 1)) (by decide +kernel))) hA
  have hZS := va_Zqof (A := fun q : Nat => s.heap.size ≤ q) (hts (.laysStatic "jdk/internal/util/Preconditions" "SIOOBE_FORMATTER" "Ljava/util/function/BiFunction;") (List.mem_append_right _ (List.mem_of_getElem? (i := 536) (by decide +kernel)))) (hts (.initialized "jdk/internal/util/Preconditions") (List.mem_append_right _ (List.mem_of_getElem? (i := 16) (by decide +kernel)))) (hs (.isRef (.static "jdk/internal/util/Preconditions" "SIOOBE_FORMATTER" "Ljava/util/function/BiFunction;")) (by decide +kernel)) hA
  obtain ⟨adK, adV, hSt, hev⟩ := vk_Sof (args := #[Value.ref b]) (s := s) (N := 16) (tm := fun i => Term.string "RainCover$Tape" (SIX.getD i 0)) (len := SLEN) (byt := SBYT) (A := fun q : Nat => s.heap.size ≤ q) (by decide) (fun i hi => hs _ (st_ex i hi)) (fun i hi => hs _ (st_co i hi)) (fun i hi => hs _ (st_ar i hi)) (fun i hi => hs _ (st_le i hi)) (fun i hi j hj => hs _ (st_el i hi j hj)) (fun i j hi hj hij => by
    rcases Nat.lt_or_gt_of_ne hij with q | q
    · exact Or.inl (hs _ (st_ne i hi j hj q))
    · exact Or.inr (hs _ (st_ne j hj i hi q))) hA
  obtain ⟨mo, hMo⟩ := va_Mi.of (hs (.isRef (.mirror "[Ljava/lang/Object;")) (by decide +kernel))
  have hDc := va_Dc.of (hts (.declares ⟨"java/lang/Object", "getClass", "()Ljava/lang/Class;"⟩) (List.mem_append_right _ (List.mem_of_getElem? (i := 1934) (by decide +kernel))))
  have hKX : ∀ (dD : va_G) (cs : Nat → ClassId) (ro : Nat → Nat) (rn : Nat → Nat) (rf : Nat → Nat → Int32) (sf : Nat), KX (dD, cs, s.heap.size, ro, rn, rf, adK, adV, tE, mo, sf) s := by
    intro dD cs ro rn rf sf
    refine ⟨fun i hi => vk_R.of (hts _ (List.mem_append_right _ (List.mem_of_getElem? (st_sr i hi)))) (hev i hi), fun q hq => ?_, fun q hq => ?_, fun q hq => va_Nc.of (hs _ (st_nc q hq)), va_AO.of hO, va_AO.of hSh, hMo, hDc⟩
    · have h1 : Cond.methodLinkNest q.1 q.2.1 q.2.2.1 q.2.2.2 ∈ NMI.filterMap (fun i => tables_1[i]?) := by rw [← st_nm]; exact List.mem_map.mpr ⟨q, hq, rfl⟩
      obtain ⟨i, -, hi⟩ := List.mem_filterMap.mp h1
      exact va_Nw.of rfl (hts _ (List.mem_append_right _ (List.mem_of_getElem? hi)))
    · have h1 : Cond.castable q.1 q.2 ∈ CAIc.filterMap (fun i => tables_1[i]?) := by rw [← st_ca]; exact List.mem_map.mpr ⟨q, hq, rfl⟩
      obtain ⟨i, -, hi⟩ := List.mem_filterMap.mp h1
      exact va_Nw.of rfl (hts _ (List.mem_append_right _ (List.mem_of_getElem? hi)))
  obtain ⟨sf, hsf⟩ : ∃ sf : Nat, (va_Z "jdk/internal/util/Preconditions" "SIOOBE_FORMATTER" "Ljava/util/function/BiFunction;" .null (fun q : Nat => s.heap.size ≤ q) s s.heap ∨ va_Z "jdk/internal/util/Preconditions" "SIOOBE_FORMATTER" "Ljava/util/function/BiFunction;" (.ref sf) (fun q : Nat => s.heap.size ≤ q) s s.heap) := by
    rcases hZS with h | ⟨t, h⟩
    · exact ⟨0, Or.inl h⟩
    · exact ⟨t, Or.inr h⟩
  have hTX : va_T .int b L (fun j => .int (xs j)) (fun q : Nat => s.heap.size ≤ q) s s.heap := by
    obtain ⟨scr, q1, q2, q3, q4, q5⟩ := hX
    exact ⟨scr, q1, q2, q3, Nat.le_of_eq q4.symm, congrArg Nat.toInt32 q4, q5, hA b hbl⟩
  refine ⟨((fun k => ([c0, c1, c2, c3, c4, c5, c6, c7, c8, c9, c10, c11, c12, c13] : List ClassId).getD k c0, fun k => ([i0, i1, i2, i3, i4, i5, i6, i7, i8, i9, i10, i11, i12, i13] : List (Nat → Nat)).getD k i0), fun k => ([a0, a1, a2, a3, a4] : List ClassId).getD k a0, s.heap.size, fun k => ([b, tD, tM] : List Nat).getD k 0, fun k => ([L, 4, 4] : List Nat).getD k 0, fun k => if k = 0 then xs else if k = 1 then (fun j => ([100, 80, 120, 60] : List Int32).getD j 0) else (fun j => ([198, 9999, 300, 100] : List Int32).getD j 0), adK, adV, tE, mo, sf), rfl, rfl, rfl, rfl, rfl, rfl, rfl, rfl, ⟨fun k q hq => ?_, fun k q hq => ?_⟩, ⟨⟨fun i hi => ?_, hZD, hZM, hZE, hTE⟩, hSt, hZC, hsf⟩, hKX _ _ _ _ _ _, Nat.le_refl _⟩
  · match k, hq with
    | 0, hq => cases hq; exact hk0
    | 1, hq => cases hq; exact hk1
    | 2, hq => cases hq; exact hk2
    | 3, hq => cases hq; exact hk3
    | 4, hq => cases hq; exact hk4
    | 5, hq => cases hq; exact hk5
    | 6, hq => cases hq; exact hk6
    | 7, hq => cases hq; exact hk7
    | 8, hq => cases hq; exact hk8
    | 9, hq => cases hq; exact hk9
    | 10, hq => cases hq; exact hk10
    | 11, hq => cases hq; exact hk11
    | 12, hq => cases hq; exact hk12
    | 13, hq => cases hq; exact hk13
    | k + 14, hq => simp [vwCl] at hq
  · match k, hq with
    | 0, hq => cases hq; exact ⟨fun n z => ⟨fun k h => (by cases h), ka0, x02, ca0, x03⟩, x01⟩
    | 1, hq => cases hq; exact ⟨fun n z => ⟨fun k h => (by cases h), ka1, x12, ca1, x13⟩, x11⟩
    | 2, hq => cases hq; exact ⟨fun n z => ⟨fun k h => (by cases h), ka2, x22, ca2, x23⟩, x21⟩
    | 3, hq => cases hq; exact ⟨fun n z => ⟨fun k h => (by cases h), ka3, x32, co3, x33⟩, ka3, co3, x32, x33, x31, x34⟩
    | 4, hq => cases hq; exact ⟨fun n z => ⟨fun k h => (by cases h), ka4, x42, co4, x43⟩, ka4, co4, x42, x43, x41, x44⟩
    | k + 5, hq => simp [gty] at hq
  · rcases (show i = 0 ∨ i = 1 ∨ i = 2 by omega) with rfl | rfl | rfl
    · exact hTX
    · exact hTD
    · exact hTM
