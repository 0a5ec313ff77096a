section AARR
variable {τ : Type} {l : Launch} {g : GG} {mi : MI} {al : Bool} {h0 h : AH} {pc k n : Nat} {lc : List (Nat × Value)} {st : List Value} {rt : τ → Option Value × AH} {o : Option τ}
theorem a_iald {r : Nat} {j : Int32} {f : Int32 → Option τ} (d : decode mi.2.1 pc = .ok (.iaload, 1)) (kk : ∀ x, AO l g mi al h0 (pc + 1) lc (.int x :: st) h k n rt (f x)) : AO l g mi al h0 pc lc (.int j :: .ref r :: st) h k n rt ((xia h r j).bind f) := by
  intro out ho p e s m args below meth c ρ0 ρ H locs ls C hag hV hS hl
  obtain ⟨x, hx, hf⟩ := Option.bind_eq_some_iff.mp ho
  unfold xia at hx
  split at hx
  case isTrue hk0 =>
    cases hx
    obtain ⟨hk | hk, hin⟩ := hk0
    · obtain ⟨L, hn, hm, hP, hD, hRO, hCL⟩ := id hV
      obtain ⟨q, hq, hc⟩ := HV.in (g := g) (ρ := ρ) hm (r := r) (by rw [hk]; exact ⟨by decide, by decide⟩)
      rw [ec_ints (t := 0) hk (by decide)] at hc
      exact va_iald C.1 C.2.1 C.2.2.2.2.2.2.2.1.1 hP q 0 hc rfl hin d (kk _ out hf p e s m args below meth c ρ0 ρ H locs ls C hag hV hS hl)
    · obtain ⟨L, hn, hm, hP, hD, hRO, hCL⟩ := id hV
      obtain ⟨i, hi, rfl⟩ := hRO.2.1 r hk
      obtain ⟨e1, e2, e3, e4⟩ := hRO.1 i hi
      have hT := C.2.2.2.2.2.2.2.1.2.1.1.1 i hi
      show W p l e _ s m args below meth c H locs k n _ (F0 m pc ls (.int j :: .ref (ρ (9000 + i)) :: st.map (mv ρ)))
      rw [e1]
      refine va_ti C.1 C.2.1 hT hS (i := j) (by rw [e3] at hin; exact hin) (v := .int (ai h (9000 + i) j.toNatClampNeg)) (by rw [e4]) d (kk _ out hf p e s m args below meth c ρ0 ρ H locs ls C hag hV hS hl)
  case isFalse hk => cases hx
theorem a_iast {r : Nat} {j x : Int32} {f : AH → Option τ} (d : decode mi.2.1 pc = .ok (.iastore, 1)) (kk : ∀ h', AO l g mi al h0 (pc + 1) lc st h' k n rt (f h')) : AO l g mi al h0 pc lc (.int x :: .int j :: .ref r :: st) h k n rt ((xis h r j x).bind f) := by
  intro out ho p e s m args below meth c ρ0 ρ H locs ls C hag hV hS hl
  obtain ⟨h', hx, hf⟩ := Option.bind_eq_some_iff.mp ho
  unfold xis at hx
  split at hx
  case isTrue hk0 =>
    cases hx
    have hk := hk0.1
    have hin := hk0.2
    have hlv : lvk (kd h r) := by rw [hk]; exact ⟨by decide, by decide⟩
    obtain ⟨L, hn, hm, hP, hD, hRO, hCL⟩ := id hV
    obtain ⟨q, hq, hc⟩ := HV.in (g := g) (ρ := ρ) hm (r := r) (by rw [hk]; exact ⟨by decide, by decide⟩)
    rw [ec_ints (t := 0) hk (by decide)] at hc
    refine va_iast C.1 C.2.1 C.2.2.2.2.2.2.2.1.1 hP hD hS q 0 hc rfl hin d (fun H1 locs1 hP1 hD1 hS1 => ?_)
    skip
    refine kk (sai h r j.toNatClampNeg x) out hf p e s m args below meth c ρ0 ρ H1 locs1 ls C (hag.put rfl) (HV.put (h' := sai h r j.toNatClampNeg x) hn hm hq (ro_ai hlv hRO) (CL.put rfl rfl rfl hCL) rfl ?_ (fun j hj => ec_ai hj) hP1 hD1) hS1 hl
    rw [ec_ints (t := 0) (show kd (sai h r j.toNatClampNeg x) r = 20 + 0 from hk) (by decide), show ai (sai h r j.toNatClampNeg x) r = va_up (ai h r) j.toNatClampNeg x from up2_eq]
    rfl
  case isFalse hk => cases hx
theorem a_bast {r : Nat} {j x : Int32} {f : AH → Option τ} (d : decode mi.2.1 pc = .ok (.bastore, 1)) (kk : ∀ h', AO l g mi al h0 (pc + 1) lc st h' k n rt (f h')) : AO l g mi al h0 pc lc (.int x :: .int j :: .ref r :: st) h k n rt ((xbs h r j x).bind f) := by
  intro out ho p e s m args below meth c ρ0 ρ H locs ls C hag hV hS hl
  obtain ⟨h', hx, hf⟩ := Option.bind_eq_some_iff.mp ho
  unfold xbs at hx
  split at hx
  case isTrue hk0 =>
    cases hx
    have hk := hk0.1
    have hin := hk0.2.1
    have hlv : lvk (kd h r) := by rw [hk]; exact ⟨by decide, by decide⟩
    obtain ⟨L, hn, hm, hP, hD, hRO, hCL⟩ := id hV
    obtain ⟨q, hq, hc⟩ := HV.in (g := g) (ρ := ρ) hm (r := r) (by rw [hk]; exact ⟨by decide, by decide⟩)
    rw [ec_ints (t := 1) hk (by decide)] at hc
    refine va_zast C.1 C.2.1 C.2.2.2.2.2.2.2.1.1 hP hD hS q 1 hc rfl hin d (fun H1 locs1 hP1 hD1 hS1 => ?_)
    have hz : vp_nar .boolean x = x := by rcases hk0.2.2 with rfl | rfl <;> rfl
    rw [hz] at hP1 hD1
    refine kk (sai h r j.toNatClampNeg x) out hf p e s m args below meth c ρ0 ρ H1 locs1 ls C (hag.put rfl) (HV.put (h' := sai h r j.toNatClampNeg x) hn hm hq (ro_ai hlv hRO) (CL.put rfl rfl rfl hCL) rfl ?_ (fun j hj => ec_ai hj) hP1 hD1) hS1 hl
    rw [ec_ints (t := 1) (show kd (sai h r j.toNatClampNeg x) r = 20 + 1 from hk) (by decide), show ai (sai h r j.toNatClampNeg x) r = va_up (ai h r) j.toNatClampNeg x from up2_eq]
    rfl
  case isFalse hk1 =>
    split at hx
    case isTrue hk0 =>
      cases hx
      have hk := hk0.1
      have hin := hk0.2
      have hlv : lvk (kd h r) := by rw [hk]; exact ⟨by decide, by decide⟩
      obtain ⟨L, hn, hm, hP, hD, hRO, hCL⟩ := id hV
      obtain ⟨q, hq, hc⟩ := HV.in (g := g) (ρ := ρ) hm (r := r) (by rw [hk]; exact ⟨by decide, by decide⟩)
      rw [ec_ints (t := 2) hk (by decide)] at hc
      refine va_bast C.1 C.2.1 C.2.2.2.2.2.2.2.1.1 hP hD hS q 2 hc rfl hin d (fun H1 locs1 hP1 hD1 hS1 => ?_)
      rw [vp_nar_byte] at hP1 hD1
      refine kk (sai h r j.toNatClampNeg x.toInt8.toInt32) out hf p e s m args below meth c ρ0 ρ H1 locs1 ls C (hag.put rfl) (HV.put (h' := sai h r j.toNatClampNeg x.toInt8.toInt32) hn hm hq (ro_ai hlv hRO) (CL.put rfl rfl rfl hCL) rfl ?_ (fun j hj => ec_ai hj) hP1 hD1) hS1 hl
      rw [ec_ints (t := 2) (show kd (sai h r j.toNatClampNeg x.toInt8.toInt32) r = 20 + 2 from hk) (by decide), show ai (sai h r j.toNatClampNeg x.toInt8.toInt32) r = va_up (ai h r) j.toNatClampNeg x.toInt8.toInt32 from up2_eq]
      rfl
    case isFalse hk => cases hx
theorem a_bald {r : Nat} {j : Int32} {f : Int32 → Option τ} (d : decode mi.2.1 pc = .ok (.baload, 1)) (kk : ∀ x, AO l g mi al h0 (pc + 1) lc (.int x :: st) h k n rt (f x)) : AO l g mi al h0 pc lc (.int j :: .ref r :: st) h k n rt ((xba h r j).bind f) := by
  intro out ho p e s m args below meth c ρ0 ρ H locs ls C hag hV hS hl
  obtain ⟨x, hx, hf⟩ := Option.bind_eq_some_iff.mp ho
  unfold xba at hx
  split at hx
  case isTrue hk0 =>
    cases hx
    obtain ⟨hk | hk | hk, hin⟩ := hk0
    · obtain ⟨L, hn, hm, hP, hD, hRO, hCL⟩ := id hV
      obtain ⟨q, hq, hc⟩ := HV.in (g := g) (ρ := ρ) hm (r := r) (by rw [hk]; exact ⟨by decide, by decide⟩)
      rw [ec_ints (t := 1) hk (by decide)] at hc
      exact va_zald C.1 C.2.1 C.2.2.2.2.2.2.2.1.1 hP q 1 hc rfl hin d (kk _ out hf p e s m args below meth c ρ0 ρ H locs ls C hag hV hS hl)
    · obtain ⟨L, hn, hm, hP, hD, hRO, hCL⟩ := id hV
      obtain ⟨q, hq, hc⟩ := HV.in (g := g) (ρ := ρ) hm (r := r) (by rw [hk]; exact ⟨by decide, by decide⟩)
      rw [ec_ints (t := 2) hk (by decide)] at hc
      exact va_bald C.1 C.2.1 C.2.2.2.2.2.2.2.1.1 hP q 2 hc rfl hin d (kk _ out hf p e s m args below meth c ρ0 ρ H locs ls C hag hV hS hl)
    · obtain ⟨L, hn, hm, hP, hD, hRO, hCL⟩ := id hV
      obtain ⟨i, hi, rfl⟩ := hRO.2.2.2.2.2.2.2.2.1 r hk
      obtain ⟨e1, e2, e3, e4⟩ := hRO.2.2.2.2.2.2.2.1 i hi
      have hT := (C.2.2.2.2.2.2.2.1.2.1.2.1.1 i hi).2.2.2
      show W p l e _ s m args below meth c H locs k n _ (F0 m pc ls (.int j :: .ref (ρ (9120 + i)) :: st.map (mv ρ)))
      rw [e1]
      refine va_tb C.1 C.2.1 hT hS (i := j) (by rw [e3] at hin; exact hin) (v := .int (ai h (9120 + i) j.toNatClampNeg)) (by rw [e4]) d (kk _ out hf p e s m args below meth c ρ0 ρ H locs ls C hag hV hS hl)
  case isFalse hk => cases hx
theorem a_aald {r : Nat} {j : Int32} {f : Nat → Option τ} (d : decode mi.2.1 pc = .ok (.aaload, 1)) (kk : ∀ x, AO l g mi al h0 (pc + 1) lc (.ref x :: st) h k n rt (f x)) : AO l g mi al h0 pc lc (.int j :: .ref r :: st) h k n rt ((xaa h r j).bind f) := by
  intro out ho p e s m args below meth c ρ0 ρ H locs ls C hag hV hS hl
  obtain ⟨x, hx, hf⟩ := Option.bind_eq_some_iff.mp ho
  unfold xaa at hx
  split at hx
  case isTrue hk0 =>
    have fin := kk x out hf p e s m args below meth c ρ0 ρ H locs ls C hag hV hS hl
    obtain ⟨hk | hk, hin⟩ := hk0
    · obtain ⟨L, hn, hm, hP, hD, hRO, hCL⟩ := id hV
      obtain ⟨q, hq, hc⟩ := HV.in (g := g) (ρ := ρ) hm (r := r) (by rw [hk]; exact ⟨by decide, by decide⟩)
      rw [ec_refs (t := 3) hk (by decide)] at hc
      refine va_aldq C.1 C.2.1 C.2.2.2.2.2.2.2.1.1 hP q 3 hc rfl hin d ?_
      rw [hx]
      exact fin
    · obtain ⟨L, hn, hm, hP, hD, hRO, hCL⟩ := id hV
      obtain ⟨q, hq, hc⟩ := HV.in (g := g) (ρ := ρ) hm (r := r) (by rw [hk]; exact ⟨by decide, by decide⟩)
      rw [ec_refs (t := 4) hk (by decide)] at hc
      refine va_aldq C.1 C.2.1 C.2.2.2.2.2.2.2.1.1 hP q 4 hc rfl hin d ?_
      rw [hx]
      exact fin
  case isFalse hk => cases hx
theorem a_alen {r : Nat} {f : Int32 → Option τ} (d : decode mi.2.1 pc = .ok (.arraylength, 1)) (kk : ∀ x, AO l g mi al h0 (pc + 1) lc (.int x :: st) h k n rt (f x)) : AO l g mi al h0 pc lc (.ref r :: st) h k n rt ((xal h r).bind f) := by
  intro out ho p e s m args below meth c ρ0 ρ H locs ls C hag hV hS hl
  obtain ⟨x, hx, hf⟩ := Option.bind_eq_some_iff.mp ho
  unfold xal at hx
  split at hx
  case isTrue hk0 =>
    cases hx
    have hcs : kd h r = 20 + 0 ∨ kd h r = 20 + 1 ∨ kd h r = 20 + 2 ∨ kd h r = 20 + 3 ∨ kd h r = 20 + 4 ∨ kd h r = 30 ∨ kd h r = 33 ∨ kd h r = 41 := by omega
    rcases hcs with hk | hk | hk | hk | hk | hk | hk | hk
    · obtain ⟨L, hn, hm, hP, hD, hRO, hCL⟩ := id hV
      obtain ⟨q, hq, hc⟩ := HV.in (g := g) (ρ := ρ) hm (r := r) (by rw [hk]; exact ⟨by decide, by decide⟩)
      rw [ec_ints (t := 0) hk (by decide)] at hc
      exact va_alen C.1 C.2.1 C.2.2.2.2.2.2.2.1.1 hP q 0 hc (ty := .int) rfl rfl d (kk _ out hf p e s m args below meth c ρ0 ρ H locs ls C hag hV hS hl)
    · obtain ⟨L, hn, hm, hP, hD, hRO, hCL⟩ := id hV
      obtain ⟨q, hq, hc⟩ := HV.in (g := g) (ρ := ρ) hm (r := r) (by rw [hk]; exact ⟨by decide, by decide⟩)
      rw [ec_ints (t := 1) hk (by decide)] at hc
      exact va_alen C.1 C.2.1 C.2.2.2.2.2.2.2.1.1 hP q 1 hc (ty := .boolean) rfl rfl d (kk _ out hf p e s m args below meth c ρ0 ρ H locs ls C hag hV hS hl)
    · obtain ⟨L, hn, hm, hP, hD, hRO, hCL⟩ := id hV
      obtain ⟨q, hq, hc⟩ := HV.in (g := g) (ρ := ρ) hm (r := r) (by rw [hk]; exact ⟨by decide, by decide⟩)
      rw [ec_ints (t := 2) hk (by decide)] at hc
      exact va_alen C.1 C.2.1 C.2.2.2.2.2.2.2.1.1 hP q 2 hc (ty := .byte) rfl rfl d (kk _ out hf p e s m args below meth c ρ0 ρ H locs ls C hag hV hS hl)
    · obtain ⟨L, hn, hm, hP, hD, hRO, hCL⟩ := id hV
      obtain ⟨q, hq, hc⟩ := HV.in (g := g) (ρ := ρ) hm (r := r) (by rw [hk]; exact ⟨by decide, by decide⟩)
      rw [ec_refs (t := 3) hk (by decide)] at hc
      exact va_alen C.1 C.2.1 C.2.2.2.2.2.2.2.1.1 hP q 3 hc (ty := .object "java/lang/Object") rfl rfl d (kk _ out hf p e s m args below meth c ρ0 ρ H locs ls C hag hV hS hl)
    · obtain ⟨L, hn, hm, hP, hD, hRO, hCL⟩ := id hV
      obtain ⟨q, hq, hc⟩ := HV.in (g := g) (ρ := ρ) hm (r := r) (by rw [hk]; exact ⟨by decide, by decide⟩)
      rw [ec_refs (t := 4) hk (by decide)] at hc
      exact va_alen C.1 C.2.1 C.2.2.2.2.2.2.2.1.1 hP q 4 hc (ty := .object "RainCover$Sheet") rfl rfl d (kk _ out hf p e s m args below meth c ρ0 ρ H locs ls C hag hV hS hl)
    · obtain ⟨L, hn, hm, hP, hD, hRO, hCL⟩ := id hV
      obtain ⟨i, hi, rfl⟩ := hRO.2.1 r hk
      obtain ⟨e1, e2, e3, e4⟩ := hRO.1 i hi
      show W p l e _ s m args below meth c H locs k n _ (F0 m pc ls (.ref (ρ (9000 + i)) :: st.map (mv ρ)))
      rw [e1]
      exact va_tlen C.1 C.2.1 (C.2.2.2.2.2.2.2.1.2.1.1.1 i hi) hS (by rw [e3]; rfl) d (kk _ out hf p e s m args below meth c ρ0 ρ H locs ls C hag hV hS hl)
    · obtain ⟨L, hn, hm, hP, hD, hRO, hCL⟩ := id hV
      have e0 := hRO.2.2.2.2.2.1 r hk
      subst e0
      obtain ⟨e1, e2, e3⟩ := hRO.2.2.2.2.1
      show W p l e _ s m args below meth c H locs k n _ (F0 m pc ls (.ref (ρ 9200) :: st.map (mv ρ)))
      rw [e1]
      exact va_tlen C.1 C.2.1 (C.2.2.2.2.2.2.2.1.2.1.1.2.2.2.2) hS (by rw [e3]; rfl) d (kk _ out hf p e s m args below meth c ρ0 ρ H locs ls C hag hV hS hl)
    · obtain ⟨L, hn, hm, hP, hD, hRO, hCL⟩ := id hV
      obtain ⟨i, hi, rfl⟩ := hRO.2.2.2.2.2.2.2.2.1 r hk
      obtain ⟨e1, e2, e3, e4⟩ := hRO.2.2.2.2.2.2.2.1 i hi
      show W p l e _ s m args below meth c H locs k n _ (F0 m pc ls (.ref (ρ (9120 + i)) :: st.map (mv ρ)))
      rw [e1]
      exact va_tlen C.1 C.2.1 ((C.2.2.2.2.2.2.2.1.2.1.2.1.1 i hi).2.2.2) hS (by rw [e3]; rfl) d (kk _ out hf p e s m args below meth c ρ0 ρ H locs ls C hag hV hS hl)
  case isFalse hk => cases hx
end AARR
