section AR3
variable {τ : Type} {l : Launch} {g : GG} {mi : MI} {al : Bool} {h0 h : AH} {pc k n : Nat} {lc : List (Nat × Value)} {st : List Value} {rt : τ → Option Value × AH} {o : Option τ}
theorem a_nload_n {j : Fin 4} {i : Nat} (d : decode mi.2.1 pc = .ok (.aload_n j, 1)) (hi : (j : Nat) = i) (q : Nat) (hq : lc[q]? = some (i, .null)) (kk : AO l g mi al h0 (pc + 1) lc (.null :: st) h k n rt o) : AO l g mi al h0 pc lc st h k n rt o :=
  fun out ho p e s m args below meth c ρ0 ρ H locs ls C hag hV hS hl => lv_aload_nN C.1 C.2.1 d hi (lm_at hl q hq) (kk out ho p e s m args below meth c ρ0 ρ H locs ls C hag hV hS hl)
theorem a_nload {i : Nat} (d : decode mi.2.1 pc = .ok (.aload i, 2)) (q : Nat) (hq : lc[q]? = some (i, .null)) (kk : AO l g mi al h0 (pc + 2) lc (.null :: st) h k n rt o) : AO l g mi al h0 pc lc st h k n rt o :=
  fun out ho p e s m args below meth c ρ0 ρ H locs ls C hag hV hS hl => lv_aloadN C.1 C.2.1 d (lm_at hl q hq) (kk out ho p e s m args below meth c ρ0 ρ H locs ls C hag hV hS hl)
theorem a_nstore_n {j : Fin 4} {i : Nat} {lc2 : List (Nat × Value)} (d : decode mi.2.1 pc = .ok (.astore_n j, 1)) (hi : (j : Nat) = i) (hn : i < mi.2.2.1) (hl2 : (i, Value.null) :: lc.filter (fun q => !(q.1 == i) && !(q.1 + 1 == i && q.2.category == 2)) = lc2) (kk : AO l g mi al h0 (pc + 1) lc2 st h k n rt o) : AO l g mi al h0 pc lc (.null :: st) h k n rt o :=
  fun out ho p e s m args below meth c ρ0 ρ H locs ls C hag hV hS hl => lv_astore_nN C.1 C.2.1 d hi hl hn (lm_st1 (v := .null) hl2) (fun ls2 hl2 => kk out ho p e s m args below meth c ρ0 ρ H locs ls2 C hag hV hS hl2)
theorem a_nstore {i : Nat} {lc2 : List (Nat × Value)} (d : decode mi.2.1 pc = .ok (.astore i, 2)) (hn : i < mi.2.2.1) (hl2 : (i, Value.null) :: lc.filter (fun q => !(q.1 == i) && !(q.1 + 1 == i && q.2.category == 2)) = lc2) (kk : AO l g mi al h0 (pc + 2) lc2 st h k n rt o) : AO l g mi al h0 pc lc (.null :: st) h k n rt o :=
  fun out ho p e s m args below meth c ρ0 ρ H locs ls C hag hV hS hl => lv_astoreN C.1 C.2.1 d hl hn (lm_st1 (v := .null) hl2) (fun ls2 hl2 => kk out ho p e s m args below meth c ρ0 ρ H locs ls2 C hag hV hS hl2)
theorem a_ifnull {r : Nat} {off : Int} (d : decode mi.2.1 pc = .ok (.ifnull off, 3)) (kk : AO l g mi al h0 (pc + 3) lc st h k n rt o) : AO l g mi al h0 pc lc (.ref r :: st) h k n rt o :=
  fun out ho p e s m args below meth c ρ0 ρ H locs ls C hag hV hS hl => lv_ifnull C.1 C.2.1 d (kk out ho p e s m args below meth c ρ0 ρ H locs ls C hag hV hS hl)
theorem a_ifnullN {off : Int} (tgt : Nat) (d : decode mi.2.1 pc = .ok (.ifnull off, 3)) (ht : (pc : Int) + off = (tgt : Int)) (kk : AO l g mi al h0 tgt lc st h k n rt o) : AO l g mi al h0 pc lc (.null :: st) h k n rt o :=
  fun out ho p e s m args below meth c ρ0 ρ H locs ls C hag hV hS hl => lv_ifnullN C.1 C.2.1 d ht (kk out ho p e s m args below meth c ρ0 ρ H locs ls C hag hV hS hl)
theorem a_ifnonnull {r : Nat} {off : Int} (tgt : Nat) (d : decode mi.2.1 pc = .ok (.ifnonnull off, 3)) (ht : (pc : Int) + off = (tgt : Int)) (kk : AO l g mi al h0 tgt lc st h k n rt o) : AO l g mi al h0 pc lc (.ref r :: st) h k n rt o :=
  fun out ho p e s m args below meth c ρ0 ρ H locs ls C hag hV hS hl => lv_ifnonnull C.1 C.2.1 d ht (kk out ho p e s m args below meth c ρ0 ρ H locs ls C hag hV hS hl)
theorem a_ifnonnullN {off : Int} (d : decode mi.2.1 pc = .ok (.ifnonnull off, 3)) (kk : AO l g mi al h0 (pc + 3) lc st h k n rt o) : AO l g mi al h0 pc lc (.null :: st) h k n rt o :=
  fun out ho p e s m args below meth c ρ0 ρ H locs ls C hag hV hS hl => lv_ifnonnullN C.1 C.2.1 d (kk out ho p e s m args below meth c ρ0 ρ H locs ls C hag hV hS hl)
theorem a_opt {x : Option Nat} {o1 : Option τ} {f : Nat → Option τ} (kn : AO l g mi al h0 pc lc (.null :: st) h k n rt o1) (ks : ∀ w, AO l g mi al h0 pc lc (.ref w :: st) h k n rt (f w)) : AO l g mi al h0 pc lc (va_rf x :: st) h k n rt (x.elim o1 f) := by
  cases x with
  | none => exact kn
  | some w => exact ks w
def xas (h : AH) (r : Nat) (j : Int32) (v : Nat) : Option AH :=
  if ¬ (j < 0 ∨ ln h r ≤ j.toNatClampNeg) ∧ ((kd h r = 23 ∧ 1 ≤ kd h v ∧ kd h v ≤ 14) ∨ (kd h r = 24 ∧ kd h v = 8)) then some (sar h r j.toNatClampNeg (some v)) else none
theorem cal_ok : ∀ c : Fin 14, ((vwCl[c.val]).1, "java/lang/Object") ∈ CAL := by decide +kernel
theorem vw_at {c : Nat} (h : c < 14) : vwCl[c]? = some (vwCl[c]'h) := List.getElem?_eq_getElem h
theorem a_aast {r v : Nat} {j : Int32} {f : AH → Option τ} (d : decode mi.2.1 pc = .ok (.aastore, 1)) (kk : ∀ h2, AO l g mi al h0 (pc + 1) lc st h2 k n rt (f h2)) : AO l g mi al h0 pc lc (.ref v :: .int j :: .ref r :: st) h k n rt ((xas h r j v).bind f) := by
  intro out ho p e s m args below meth c ρ0 ρ H locs ls C hag hV hS hl
  obtain ⟨h', hx, hf⟩ := Option.bind_eq_some_iff.mp ho
  unfold xas at hx
  split at hx
  case isFalse => cases hx
  case isTrue hk0 =>
    cases hx
    obtain ⟨hin, hk0⟩ := hk0
    have hkv : 1 ≤ kd h v ∧ kd h v ≤ 14 := by omega
    obtain ⟨L, hn, hm, hP, hD, hRO, hCL⟩ := id hV
    obtain ⟨q, hq, hc⟩ := HV.in (g := g) (ρ := ρ) hm (r := r) (by unfold lvk; omega)
    obtain ⟨qv, hqv, hcv⟩ := HV.in (g := g) (ρ := ρ) hm (r := v) (by unfold lvk; omega)
    rw [ec_obj (c := kd h v - 1) (by omega) (by omega)] at hcv
    rcases hk0 with ⟨hk, hk1⟩ | ⟨hk, hk1⟩
    · have hca : va_Nw (.castable (vwCl[kd h v - 1]'(by show _ < 14; omega)).1 "java/lang/Object") s := C.2.2.2.2.2.2.2.1.2.2.1.2.2.1 _ (cal_ok ⟨kd h v - 1, by omega⟩)
      rw [ec_refs (t := 3) hk (by decide)] at hc
      refine va_astqO (ci := kd h v - 1) (qk := qv) (q0 := q) (t0 := 3) C.1 C.2.1 C.2.2.2.2.2.2.2.1.1 hP hD hS hc rfl hca hcv (vw_at (by omega)) hin d (fun H1 locs1 hP1 hD1 hS1 => ?_)
      refine kk (sar h r j.toNatClampNeg (some v)) out hf p e s m args below meth c ρ0 ρ H1 locs1 ls C (hag.put rfl) (HV.put (h' := sar h r j.toNatClampNeg (some v)) hn hm hq (ro_ar hRO) (cl_ar (fun y hy => by cases hy; omega) hCL) rfl ?_ (fun j hj => ec_ar hj) hP1 hD1) hS1 hl
      rw [ec_refs (t := 3) (show kd (sar h r j.toNatClampNeg (some v)) r = 20 + 3 from hk) (by decide), show ar (sar h r j.toNatClampNeg (some v)) r = va_up (ar h r) j.toNatClampNeg (some v) from up2_eq]
      refine congrArg (fun z => Sum.inl (gcs g 3, (ln h r, Sum.inr (Sum.inr (Sum.inr (Sum.inr z)))))) ?_
      funext i
      unfold va_up
      by_cases hi : i = j.toNatClampNeg
      · rw [if_pos hi, if_pos hi]; rfl
      · rw [if_neg hi, if_neg hi]
    · have e8 : kd h v - 1 = 7 := by omega
      rw [ec_refs (t := 4) hk (by decide)] at hc
      refine va_astq (r := (RX6, TX6, 3)) (ci := kd h v - 1) (qk := qv) (q0 := q) (t0 := 4) C.1 C.2.1 C.2.2.2.2.2.2.2.1.1 hP hD hS hc rfl  hcv (by rw [e8]; rfl) hin d (fun H1 locs1 hP1 hD1 hS1 => ?_)
      refine kk (sar h r j.toNatClampNeg (some v)) out hf p e s m args below meth c ρ0 ρ H1 locs1 ls C (hag.put rfl) (HV.put (h' := sar h r j.toNatClampNeg (some v)) hn hm hq (ro_ar hRO) (cl_ar (fun y hy => by cases hy; omega) hCL) rfl ?_ (fun j hj => ec_ar hj) hP1 hD1) hS1 hl
      rw [ec_refs (t := 4) (show kd (sar h r j.toNatClampNeg (some v)) r = 20 + 4 from hk) (by decide), show ar (sar h r j.toNatClampNeg (some v)) r = va_up (ar h r) j.toNatClampNeg (some v) from up2_eq]
      refine congrArg (fun z => Sum.inl (gcs g 4, (ln h r, Sum.inr (Sum.inr (Sum.inr (Sum.inr z)))))) ?_
      funext i
      unfold va_up
      by_cases hi : i = j.toNatClampNeg
      · rw [if_pos hi, if_pos hi]; rfl
      · rw [if_neg hi, if_neg hi]
def xcc (h : AH) (r ci : Nat) : Option Unit := if kd h r = ci + 1 then some () else none
theorem a_cast {ci : Nat} {CN : String} {T : u_T} {N : Nat} {ty : Nat → FieldType} (kc : KC ci CN T N ty) {r idx : Nat} {f : Unit → Option τ} (d : decode mi.2.1 pc = .ok (.checkcast idx, 3)) (hw : Cond.classLink mi.1 idx CN ∈ UW) (kk : AO l g mi al h0 (pc + 3) lc (.ref r :: st) h k n rt (f ())) : AO l g mi al h0 pc lc (.ref r :: st) h k n rt ((xcc h r ci).bind f) := by
  intro out ho p e s m args below meth c ρ0 ρ H locs ls C hag hV hS hl
  obtain ⟨u, hx, hf⟩ := Option.bind_eq_some_iff.mp ho
  unfold xcc at hx
  split at hx
  case isFalse => cases hx
  case isTrue hk =>
    exact va_castS C.1 C.2.1 C.2.2.2.1 (C.2.2.2.2.1 _ hw) (C.2.2.2.2.2.2.2.1.1.1 ci _ kc.1).2 (recv_at hV C.2.2.2.2.2.2.2.1 kc.1 kc.2.2.1 hk) d (kk out hf p e s m args below meth c ρ0 ρ H locs ls C hag hV hS hl)
def xio (h : AH) (r c : Nat) : Option Int32 :=
  if kd h r = c + 1 then some 1
  else if c = 5 ∧ kd h r = 7 then some 1
  else if kd h r = 2 ∨ kd h r = 3 ∨ kd h r = 6 ∨ kd h r = 7 then some 0 else none
theorem a_inst {ci : Nat} {CN : String} {T : u_T} {N : Nat} {ty : Nat → FieldType} (kc : KC ci CN T N ty) {r idx : Nat} {f : Int32 → Option τ} (hci : ci = 1 ∨ ci = 5 ∨ ci = 6) (d : decode mi.2.1 pc = .ok (.instanceof idx, 3)) (hw : Cond.classLink mi.1 idx CN ∈ UW) (kk : ∀ x, AO l g mi al h0 (pc + 3) lc (.int x :: st) h k n rt (f x)) : AO l g mi al h0 pc lc (.ref r :: st) h k n rt ((xio h r ci).bind f) := by
  intro out ho p e s m args below meth c ρ0 ρ H locs ls C hag hV hS hl
  obtain ⟨x, hx, hf⟩ := Option.bind_eq_some_iff.mp ho
  have fin := kk x out hf p e s m args below meth c ρ0 ρ H locs ls C hag hV hS hl
  unfold xio at hx
  have hwc := C.2.2.2.2.1 _ hw
  have K3 := C.2.2.2.2.2.2.2.1.2.2.1
  have no : ∀ (a : Nat) (q : vw_C), vwCl[a]? = some q → a + 1 < 20 → kd h r = a + 1 → (q.1, CN) ∈ NCL → x = 0 → W p l e mi.2.2.2.2.1 s m args below meth c H locs k n (MQ below (PostB g al ρ0 h0 (rt out)) args s mi.2.2.2.2.2.1 mi.2.2.2.2.2.2.1 (gA g)) (F0 m pc ls ((Value.ref r :: st).map (mv ρ))) := by
    intro a q hq h20 hk hn e0
    subst e0
    exact va_instNo (C := q.1) C.1 C.2.1 C.2.2.2.1 hwc (K3.2.2.2.1 _ hn) (recv_at hV C.2.2.2.2.2.2.2.1 hq h20 hk) d fin
  split at hx
  case isTrue hk =>
    cases hx
    exact va_instS C.1 C.2.1 C.2.2.2.1 hwc (C.2.2.2.2.2.2.2.1.1.1 ci _ kc.1).2 (recv_at hV C.2.2.2.2.2.2.2.1 kc.1 kc.2.2.1 hk) d fin
  case isFalse hk =>
    split at hx
    case isTrue hk2 =>
      obtain ⟨e5, e7⟩ := hk2
      subst e5
      cases hx
      have hcn : (CN, T, N) = (RX4, TX4, 4) := Option.some.inj (kc.1.symm.trans rfl)
      cases hcn
      exact va_instY (C := RX5) C.1 C.2.1 C.2.2.2.1 hwc (K3.2.2.1 (RX5, RX4) (by decide +kernel)) (recv_at (ci := 6) hV C.2.2.2.2.2.2.2.1 rfl (by decide) e7) d fin
    case isFalse hk2 =>
      split at hx
      case isFalse => cases hx
      case isTrue hk3 =>
        cases hx
        rcases hci with rfl | rfl | rfl
        · have hcn : (CN, T, N) = (RX0, TX0, 4) := Option.some.inj (kc.1.symm.trans rfl)
          cases hcn
          rcases hk3 with e | e | e | e
          · exact absurd e hk
          · exact no 2 _ rfl (by decide) e (by decide +kernel) rfl
          · exact no 5 _ rfl (by decide) e (by decide +kernel) rfl
          · exact no 6 _ rfl (by decide) e (by decide +kernel) rfl
        · have hcn : (CN, T, N) = (RX4, TX4, 4) := Option.some.inj (kc.1.symm.trans rfl)
          cases hcn
          rcases hk3 with e | e | e | e
          · exact no 1 _ rfl (by decide) e (by decide +kernel) rfl
          · exact no 2 _ rfl (by decide) e (by decide +kernel) rfl
          · exact absurd e hk
          · exact absurd ⟨rfl, e⟩ hk2
        · have hcn : (CN, T, N) = (RX5, TX5, 4) := Option.some.inj (kc.1.symm.trans rfl)
          cases hcn
          rcases hk3 with e | e | e | e
          · exact no 1 _ rfl (by decide) e (by decide +kernel) rfl
          · exact no 2 _ rfl (by decide) e (by decide +kernel) rfl
          · exact no 5 _ rfl (by decide) e (by decide +kernel) rfl
          · exact absurd e hk
theorem a_gs1 {idx : Nat} (d : decode mi.2.1 pc = .ok (.getstatic idx, 3)) (hw : Cond.fieldLink mi.1 idx "RainCover" "DRYNESS" "[I" ∈ UW) (kk : AO l g mi al h0 (pc + 3) lc (.ref 9001 :: st) h k n rt o) : AO l g mi al h0 pc lc st h k n rt o := by
  intro out ho p e s m args below meth c ρ0 ρ H locs ls C hag hV hS hl
  obtain ⟨L, hn, hm, hP, hD, hRO, hCL⟩ := id hV
  have fin := kk out ho p e s m args below meth c ρ0 ρ H locs ls C hag hV hS hl
  have e0 : (Value.ref 9001 :: st).map (mv ρ) = .ref (ρ 9001) :: st.map (mv ρ) := rfl
  rw [e0, (hRO.1 1 (by decide)).1] at fin
  exact va_gets C.1 C.2.1 C.2.2.2.2.2.2.2.1.2.1.1.2.1 hS C.2.2.2.1 (C.2.2.2.2.1 _ hw) (fun _ h9 => h9) d fin
theorem a_gs2 {idx : Nat} (d : decode mi.2.1 pc = .ok (.getstatic idx, 3)) (hw : Cond.fieldLink mi.1 idx "RainCover" "MOST_LAW" "[I" ∈ UW) (kk : AO l g mi al h0 (pc + 3) lc (.ref 9002 :: st) h k n rt o) : AO l g mi al h0 pc lc st h k n rt o := by
  intro out ho p e s m args below meth c ρ0 ρ H locs ls C hag hV hS hl
  obtain ⟨L, hn, hm, hP, hD, hRO, hCL⟩ := id hV
  have fin := kk out ho p e s m args below meth c ρ0 ρ H locs ls C hag hV hS hl
  have e0 : (Value.ref 9002 :: st).map (mv ρ) = .ref (ρ 9002) :: st.map (mv ρ) := rfl
  rw [e0, (hRO.1 2 (by decide)).1] at fin
  exact va_gets C.1 C.2.1 C.2.2.2.2.2.2.2.1.2.1.1.2.2.1 hS C.2.2.2.1 (C.2.2.2.2.1 _ hw) (fun _ h9 => h9) d fin
theorem a_gs3 {idx : Nat} (d : decode mi.2.1 pc = .ok (.getstatic idx, 3)) (hw : Cond.fieldLink mi.1 idx "java/util/ArrayList" "DEFAULTCAPACITY_EMPTY_ELEMENTDATA" "[Ljava/lang/Object;" ∈ UW) (kk : AO l g mi al h0 (pc + 3) lc (.ref 9200 :: st) h k n rt o) : AO l g mi al h0 pc lc st h k n rt o := by
  intro out ho p e s m args below meth c ρ0 ρ H locs ls C hag hV hS hl
  obtain ⟨L, hn, hm, hP, hD, hRO, hCL⟩ := id hV
  have fin := kk out ho p e s m args below meth c ρ0 ρ H locs ls C hag hV hS hl
  have e0 : (Value.ref 9200 :: st).map (mv ρ) = .ref (ρ 9200) :: st.map (mv ρ) := rfl
  rw [e0, hRO.2.2.2.2.1.1] at fin
  exact va_gets C.1 C.2.1 C.2.2.2.2.2.2.2.1.2.1.1.2.2.2.1 hS C.2.2.2.1 (C.2.2.2.2.1 _ hw) (fun _ h9 => h9) d fin
theorem a_ldcS (i : Nat) {idx : Nat} (d : decode mi.2.1 pc = .ok (.ldc idx, 2)) (hi : i < 16) (hx : mi.1 = "RainCover$Tape" ∧ SIX.getD i 0 = idx) (kk : AO l g mi al h0 (pc + 2) lc (.ref (9100 + i) :: st) h k n rt o) : AO l g mi al h0 pc lc st h k n rt o := by
  intro out ho p e s m args below meth c ρ0 ρ H locs ls C hag hV hS hl
  obtain ⟨L, hn, hm, hP, hD, hRO, hCL⟩ := id hV
  have fin := kk out ho p e s m args below meth c ρ0 ρ H locs ls C hag hV hS hl
  have e0 : (Value.ref (9100 + i) :: st).map (mv ρ) = .ref (ρ (9100 + i)) :: st.map (mv ρ) := rfl
  rw [e0, (hRO.2.2.1 i hi).1] at fin
  have hR := C.2.2.2.2.2.2.2.1.2.2.1.1 i hi
  rw [hx.2] at hR
  exact va_ldcS C.1 C.2.1 (by rw [← hx.1]; exact C.2.2.2.1) hR d fin
theorem a_getiS {ci : Nat} {CN : String} {T : u_T} {N : Nat} {ty : Nat → FieldType} (kc : KC ci CN T N ty) (j : Nat) {r idx : Nat} {ref : String} {f : Int32 → Option τ} (d : decode mi.2.1 pc = .ok (.getfield idx, 3)) (hj : j < N) (hR : isR ci j = false) (hw : Cond.fieldLink mi.1 idx ref (T j).2.1 (T j).2.2.1 ∈ UW) (hs : Cond.sameField ref (T j).1 (T j).2.1 (T j).2.2.1 ∈ UW) (kk : ∀ x, AO l g mi al h0 (pc + 3) lc (.int x :: st) h k n rt (f x)) : AO l g mi al h0 pc lc (.ref r :: st) h k n rt ((xgi h r ci j).bind f) := by
  intro out ho p e s m args below meth c ρ0 ρ H locs ls C hag hV hS hl
  obtain ⟨x, hx, hf⟩ := Option.bind_eq_some_iff.mp ho
  obtain ⟨k1, k2, k3, k4, k5, k6⟩ := kc
  unfold xgi at hx
  by_cases hk : kd h r = ci + 1
  · rw [if_pos hk] at hx
    obtain ⟨L, hn, hm, hP, hD, hRO, hCL⟩ := id hV
    obtain ⟨q, hq, hc⟩ := HV.in (g := g) (ρ := ρ) hm (r := r) (by rw [hk]; exact ⟨by omega, by omega⟩)
    rw [ec_obj hk k3] at hc
    refine va_get C.1 C.2.1 (C.2.2.2.2.1) k4 C.2.2.2.1 C.2.2.2.2.2.2.2.1.1 hP q hc k1 j hj (C.2.2.2.2.1 _ hw) (u_same (C.2.2.2.2.1 _ hs)) (v := mv ρ (.int x)) ?_ d (kk x out hf p e s m args below meth c ρ0 ρ H locs ls C hag hV hS hl)
    rw [fvs_at (by rw [k2]; exact hj)]
    cases hx
    unfold fv
    rw [if_neg (by rw [hR]; decide)]
    rfl
  · rw [if_neg hk] at hx; cases hx
theorem a_putiS {ci : Nat} {CN : String} {T : u_T} {N : Nat} {ty : Nat → FieldType} (kc : KC ci CN T N ty) (j : Nat) {r idx : Nat} {x : Int32} {ref : String} {f : AH → Option τ} (d : decode mi.2.1 pc = .ok (.putfield idx, 3)) (hj : j < N) (hR : isR ci j = false) (hw : Cond.fieldLink mi.1 idx ref (T j).2.1 (T j).2.2.1 ∈ UW) (hs : Cond.sameField ref (T j).1 (T j).2.1 (T j).2.2.1 ∈ UW) (hty : ty j = .int) (hfin : (T j).2.2.2 = false) (kk : ∀ h2, AO l g mi al h0 (pc + 3) lc st h2 k n rt (f h2)) : AO l g mi al h0 pc lc (.int x :: .ref r :: st) h k n rt ((xpi h r ci j x).bind f) := by
  intro out ho p e s m args below meth c ρ0 ρ H locs ls C hag hV hS hl
  obtain ⟨h', hx, hf⟩ := Option.bind_eq_some_iff.mp ho
  obtain ⟨k1, k2, k3, k4, k5, k6⟩ := kc
  unfold xpi at hx
  split at hx
  case isFalse hk => cases hx
  case isTrue hk =>
    cases hx
    have hn1 : narrow (ty j) (.int x) = .int x := by rw [hty]; rfl
    have hn2 : fits (ty j) (.int x) = true := by rw [hty]; rfl
    obtain ⟨L, hn, hm, hP, hD, hRO, hCL⟩ := id hV
    obtain ⟨q, hq, hc⟩ := HV.in (g := g) (ρ := ρ) hm (r := r) (by rw [hk]; exact ⟨by omega, by omega⟩)
    rw [ec_obj hk k3] at hc
    refine va_put C.1 C.2.1 (C.2.2.2.2.1) k4 ty k5 k6 C.2.2.2.1 C.2.2.2.2.2.2.2.1.1 hP hD hS q hc k1 j hj (C.2.2.2.2.1 _ hw) (u_same (C.2.2.2.2.1 _ hs)) hfin (ty := ty j) (k5 j hj) hn1 hn2 (by simp [fvs, k2, hj]) d (fun H1 locs1 hP1 hD1 hS1 => ?_)
    refine kk (sfi h r j x) out hf p e s m args below meth c ρ0 ρ H1 locs1 ls C (hag.put rfl) (HV.put (h' := sfi h r j x) hn hm hq (ro_fi hRO) (CL.put rfl rfl rfl hCL) rfl ?_ (fun j hj => ec_fi hj) hP1 hD1) hS1 hl
    rw [ec_obj (c := ci) (show kd (sfi h r j x) r = ci + 1 from hk) k3]
    refine congrArg (fun z => Sum.inr (ci, z)) ?_
    refine (fvs_set (h := h) (by rw [k2]; exact hj) (fun i hi => ?_)).symm.trans ?_
    · unfold fv
      rw [show fi (sfi h r j x) r = va_up (fi h r) j x from up2_eq, show va_up (fi h r) j x i = fi h r i from if_neg hi]
      rfl
    · congr 1
      unfold fv
      rw [if_neg (by rw [hR]; decide), show fi (sfi h r j x) r = va_up (fi h r) j x from up2_eq, show va_up (fi h r) j x j = x from if_pos rfl]; rfl
theorem a_objI {r idx : Nat} (d : decode mi.2.1 pc = .ok (.invokespecial idx, 3)) (hw1 : Cond.methodLink mi.1 idx objectInit ∈ UW) (hw2 : Cond.instanceMethod objectInit ∈ UW) (hw3 : Cond.code objectInit ⟨#[0xb1]⟩ 1 none ∈ UW) (hf1 : 1 ≤ mi.2.2.2.2.1.frames) (hf2 : 20 ≤ mi.2.2.2.2.1.locals) (hW : (st.map fun v => v.category).sum ≤ 8) (kk : AO l g mi al h0 (pc + 3) lc st h k n rt o) : AO l g mi al h0 pc lc (.ref r :: st) h k n rt o := by
  intro out ho p e s m args below meth c ρ0 ρ H locs ls C hag hV hS hl
  have hWr : ((st.map (mv ρ)).map fun v => v.category).sum ≤ 8 := by
    rw [List.map_map]
    have e0 : ((fun v : Value => v.category) ∘ mv ρ) = fun v => v.category := funext fun v => mv_cat ρ v
    rw [e0]
    exact hW
  refine W.objInit C.1 C.2.1 C.2.2.2.1 (C.2.2.2.2.1 _ hw1) (C.2.2.2.2.1 _ hw2) (C.2.2.2.2.1 _ hw3) rfl (by rw [C.2.2.1]; exact hl.1) rfl d hf1 (by show 2 * 0 + _ + 12 ≤ _; omega) ?_
  exact W.eq (g2 := F0 m (pc + 3) ls (st.map (mv ρ))) rfl (kk out ho p e s m args below meth c ρ0 ρ H locs ls C hag hV hS hl)
end AR3
