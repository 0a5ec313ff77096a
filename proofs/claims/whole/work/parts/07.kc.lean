theorem kc0 : KC 0 RJx4a65c TJx4a65c 3 tyJx4a65c := ⟨rfl, rfl, by decide, ins_of [58, 54, 56] (by decide +kernel) (by decide +kernel), tyJx4a65c_ok, nmJx4a65c⟩
theorem kc1 : KC 1 RX0 TX0 4 tyX0 := ⟨rfl, rfl, by decide, ins_of [681, 682, 683, 684] (by decide +kernel) (by decide +kernel), tyX0_ok, nmX0⟩
theorem kc2 : KC 2 RX1 TX1 4 tyX1 := ⟨rfl, rfl, by decide, ins_of [689, 690, 691, 692] (by decide +kernel) (by decide +kernel), tyX1_ok, nmX1⟩
theorem kc3 : KC 3 RX2 TX2 9 tyX2 := ⟨rfl, rfl, by decide, ins_of [716, 718, 720, 722, 724, 726, 728, 730, 732] (by decide +kernel) (by decide +kernel), tyX2_ok, nmX2⟩
theorem kc4 : KC 4 RX3 TX3 4 tyX3 := ⟨rfl, rfl, by decide, ins_of [234, 236, 238, 240] (by decide +kernel) (by decide +kernel), tyX3_ok, nmX3⟩
theorem kc5 : KC 5 RX4 TX4 4 tyX4 := ⟨rfl, rfl, by decide, ins_of [655, 657, 659, 661] (by decide +kernel) (by decide +kernel), tyX4_ok, nmX4⟩
theorem kc6 : KC 6 RX5 TX5 4 tyX5 := ⟨rfl, rfl, by decide, ins_of [670, 671, 672, 673] (by decide +kernel) (by decide +kernel), tyX5_ok, nmX5⟩
theorem kc7 : KC 7 RX6 TX6 3 tyX6 := ⟨rfl, rfl, by decide, ins_of [136, 138, 140] (by decide +kernel) (by decide +kernel), tyX6_ok, nmX6⟩
theorem kc8 : KC 8 RX7 TX7 4 tyX7 := ⟨rfl, rfl, by decide, ins_of [115, 117, 119, 121] (by decide +kernel) (by decide +kernel), tyX7_ok, nmX7⟩
theorem kc9 : KC 9 RX8 TX8 4 tyX8 := ⟨rfl, rfl, by decide, ins_of [94, 96, 98, 100] (by decide +kernel) (by decide +kernel), tyX8_ok, nmX8⟩
theorem kc10 : KC 10 RX9 TX9 4 tyX9 := ⟨rfl, rfl, by decide, ins_of [72, 74, 76, 78] (by decide +kernel) (by decide +kernel), tyX9_ok, nmX9⟩
theorem kc11 : KC 11 RX10 TX10 11 tyX10 := ⟨rfl, rfl, by decide, ins_of [474, 476, 478, 480, 482, 484, 486, 488, 490, 492, 494] (by decide +kernel) (by decide +kernel), tyX10_ok, nmX10⟩
theorem kc12 : KC 12 RX11 TX11 20 tyX11 := ⟨rfl, rfl, by decide, ins_of [163, 165, 167, 169, 171, 173, 175, 177, 179, 181, 183, 185, 187, 189, 191, 193, 195, 197, 199, 201] (by decide +kernel) (by decide +kernel), tyX11_ok, nmX11⟩
theorem kc13 : KC 13 RX12 TX12 77 tyX12 := ⟨rfl, rfl, by decide, ins_of [1273, 1275, 1277, 1279, 1281, 1283, 1285, 1287, 1289, 1291, 1293, 1295, 1297, 1299, 1301, 1303, 1305, 1307, 1309, 1311, 1313, 1315, 1317, 1319, 1321, 1323, 1325, 1327, 1329, 1331, 1333, 1335, 1337, 1339, 1341, 1343, 1345, 1347, 1349, 1351, 1353, 1355, 1357, 1359, 1361, 1363, 1365, 1367, 1369, 1371, 1373, 1375, 1377, 1379, 1381, 1383, 1385, 1387, 1389, 1391, 1393, 1395, 1397, 1399, 1401, 1403, 1405, 1407, 1409, 1411, 1413, 1415, 1417, 1419, 1421, 1423, 1425] (by decide +kernel) (by decide +kernel), tyX12_ok, nmX12⟩
section ASW
variable {τ : Type} {l : Launch} {g : GG} {mi : MI} {al : Bool} {h0 h : AH} {pc k n : Nat} {lc : List (Nat × Value)} {st : List Value} {rt : τ → Option Value × AH} {o : Option τ}
def swt (pc : Nat) (lo hi : Int) (offs : Array Int) (v : Int32) (tgt : Nat) : Bool := decide (lo ≤ v.toInt) && decide (v.toInt ≤ hi) && ((offs[(v.toInt - lo).toNat]?).map (fun q => (pc : Int) + q) == some (tgt : Int))
theorem a_swt {x v : Int32} {dflt lo hi : Int} {offs : Array Int} {len : Nat} {o1 o2 : Option τ} (tgt : Nat) (d : decode mi.2.1 pc = .ok (.tableswitch dflt lo hi offs, len)) (hs : swt pc lo hi offs v tgt = true) (_ht : True)
    (kt : x = v → AO l g mi al h0 tgt lc st h k n rt o1) (kf : ¬ x = v → AO l g mi al h0 pc lc (.int x :: st) h k n rt o2) : AO l g mi al h0 pc lc (.int x :: st) h k n rt (if x = v then o1 else o2) := by
  intro out ho p e s m args below meth c ρ0 ρ H locs ls C hag hV hS hl
  by_cases hx : x = v
  · rw [if_pos hx] at ho
    simp only [swt, Bool.and_eq_true, decide_eq_true_eq, beq_iff_eq, Option.map_eq_some_iff] at hs
    obtain ⟨⟨h1, h2⟩, off, h3, h4⟩ := hs
    subst hx
    exact lv_tableIn C.1 C.2.1 d (by omega) (by omega) h3 h4 (kt rfl out ho p e s m args below meth c ρ0 ρ H locs ls C hag hV hS hl)
  · rw [if_neg hx] at ho
    exact kf hx out ho p e s m args below meth c ρ0 ρ H locs ls C hag hV hS hl
def swtd (pc : Nat) (dflt lo hi : Int) (vs : List Int32) (tgt : Nat) : Bool := decide ((pc : Int) + dflt = (tgt : Int)) && decide (vs.map (fun v => v.toInt) = (List.range (hi - lo + 1).toNat).map (fun (i : Nat) => lo + (i : Int)))
theorem a_swtd {x : Int32} {vs : List Int32} {dflt lo hi : Int} {offs : Array Int} {len : Nat} (tgt : Nat) (d : decode mi.2.1 pc = .ok (.tableswitch dflt lo hi offs, len)) (hs : swtd pc dflt lo hi vs tgt = true) (_ht : True) (hv : ∀ v ∈ vs, ¬ x = v)
    (kk : AO l g mi al h0 tgt lc st h k n rt o) : AO l g mi al h0 pc lc (.int x :: st) h k n rt o := by
  intro out ho p e s m args below meth c ρ0 ρ H locs ls C hag hV hS hl
  simp only [swtd, Bool.and_eq_true, decide_eq_true_eq] at hs
  refine lv_tableOut C.1 C.2.1 d ?_ hs.1 (kk out ho p e s m args below meth c ρ0 ρ H locs ls C hag hV hS hl)
  by_cases h1 : x.toInt < lo
  · exact Or.inl h1
  · by_cases h2 : hi < x.toInt
    · exact Or.inr h2
    · exfalso
      have hm : x.toInt ∈ vs.map (fun v => v.toInt) := by
        rw [hs.2]
        refine List.mem_map.mpr ⟨(x.toInt - lo).toNat, List.mem_range.mpr (by omega), by omega⟩
      obtain ⟨v, hv1, hv2⟩ := List.mem_map.mp hm
      exact hv v hv1 (Int32.toInt_inj.mp hv2).symm
def swl (pc : Nat) (dflt : Int) (ps : Array (Int × Int)) (v : Int32) (tgt : Nat) : Bool := (ps.toList.zip (ps.toList.drop 1)).all (fun (a, next) => a.1 < next.1) && decide ((pc : Int) + Op.lookupswitch.offset ps.toList dflt v.toInt = (tgt : Int))
theorem a_swl {x v : Int32} {dflt : Int} {ps : Array (Int × Int)} {len : Nat} {o1 o2 : Option τ} (tgt : Nat) (d : decode mi.2.1 pc = .ok (.lookupswitch dflt ps, len)) (hs : swl pc dflt ps v tgt = true) (_ht : True)
    (kt : x = v → AO l g mi al h0 tgt lc st h k n rt o1) (kf : ¬ x = v → AO l g mi al h0 pc lc (.int x :: st) h k n rt o2) : AO l g mi al h0 pc lc (.int x :: st) h k n rt (if x = v then o1 else o2) := by
  intro out ho p e s m args below meth c ρ0 ρ H locs ls C hag hV hS hl
  by_cases hx : x = v
  · rw [if_pos hx] at ho
    simp only [swl, Bool.and_eq_true, decide_eq_true_eq] at hs
    subst hx
    exact lv_lookup C.1 C.2.1 d hs.1 rfl hs.2 (kt rfl out ho p e s m args below meth c ρ0 ρ H locs ls C hag hV hS hl)
  · rw [if_neg hx] at ho
    exact kf hx out ho p e s m args below meth c ρ0 ρ H locs ls C hag hV hS hl
theorem lk_none (dflt : Int) : ∀ (ps : List (Int × Int)) (x : Int), (∀ q ∈ ps, ¬ x = q.1) → Op.lookupswitch.offset ps dflt x = dflt := by
  intro ps x h
  exact Op.lookupswitch.offset_none (List.find?_eq_none.mpr (fun q hq => by simpa using fun e => h q hq e.symm))
def swld (pc : Nat) (dflt : Int) (ps : Array (Int × Int)) (vs : List Int32) (tgt : Nat) : Bool := (ps.toList.zip (ps.toList.drop 1)).all (fun (a, next) => a.1 < next.1) && decide ((pc : Int) + dflt = (tgt : Int)) && decide (vs.map (fun v => v.toInt) = ps.toList.map (fun q => q.1))
theorem a_swld {x : Int32} {vs : List Int32} {dflt : Int} {ps : Array (Int × Int)} {len : Nat} (tgt : Nat) (d : decode mi.2.1 pc = .ok (.lookupswitch dflt ps, len)) (hs : swld pc dflt ps vs tgt = true) (_ht : True) (hv : ∀ v ∈ vs, ¬ x = v)
    (kk : AO l g mi al h0 tgt lc st h k n rt o) : AO l g mi al h0 pc lc (.int x :: st) h k n rt o := by
  intro out ho p e s m args below meth c ρ0 ρ H locs ls C hag hV hS hl
  simp only [swld, Bool.and_eq_true, decide_eq_true_eq] at hs
  refine lv_lookup C.1 C.2.1 d hs.1.1 (lk_none dflt ps.toList x.toInt (fun q hq e => ?_)) hs.1.2 (kk out ho p e s m args below meth c ρ0 ρ H locs ls C hag hV hS hl)
  have hm : x.toInt ∈ vs.map (fun v => v.toInt) := by
    rw [hs.2]
    exact List.mem_map.mpr ⟨q, hq, e.symm⟩
  obtain ⟨v, hv1, hv2⟩ := List.mem_map.mp hm
  exact hv v hv1 (Int32.toInt_inj.mp hv2).symm
end ASW
