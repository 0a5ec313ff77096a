section AR5
variable {τ : Type} {l : Launch} {g : GG} {mi : MI} {al : Bool} {h0 h : AH} {pc k n : Nat} {lc : List (Nat × Value)} {st : List Value} {rt : τ → Option Value × AH} {o : Option τ}
theorem a_i2c {x : Int32} (d : decode mi.2.1 pc = .ok (.i2c, 1)) (kk : AO l g mi al h0 (pc + 1) lc (.int ((x.toUInt32 % 65536).toInt32) :: st) h k n rt o) : AO l g mi al h0 pc lc (.int x :: st) h k n rt o :=
  fun out ho p e s m args below meth c ρ0 ρ H locs ls C hag hV hS hl => lv_i2c C.1 C.2.1 d rfl (kk out ho p e s m args below meth c ρ0 ρ H locs ls C hag hV hS hl)
theorem a_tret {v : Int32} {x : τ} {ty : FieldType} (d : decode mi.2.1 pc = .ok (.ireturn, 1)) (hr : mi.2.2.2.1 = some ty) (hz : narrow ty (.int v) = .int v) (hx : rt x = (some (.int v), h)) (hk : k ≤ mi.2.2.2.2.2.1) (hn : n ≤ mi.2.2.2.2.2.2.1) : AO l g mi al h0 pc lc [.int v] h k n rt (some x) := by
  intro out ho p e s m args below meth c ρ0 ρ H locs ls C hag hV hS hl
  cases ho
  rw [hx]
  exact W.widen hk hn (W.zret (ty := ty) C.1 C.2.1 (C.2.2.2.2.2.1.trans hr) hz (fun t ht _ => HV.post (mi := mi) (v := some (.int v)) hag hV hS ht) hS.2.2 d C.2.2.2.2.2.2.1)
theorem a_gs4 {idx : Nat} (d : decode mi.2.1 pc = .ok (.getstatic idx, 3)) (hw : Cond.fieldLink mi.1 idx "java/lang/String" "COMPACT_STRINGS" "Z" ∈ UW) (kk : AO l g mi al h0 (pc + 3) lc (.int 1 :: st) h k n rt o) : AO l g mi al h0 pc lc st h k n rt o :=
  fun out ho p e s m args below meth c ρ0 ρ H locs ls C hag hV hS hl => va_gets C.1 C.2.1 C.2.2.2.2.2.2.2.1.2.1.2.2.1 hS C.2.2.2.1 (C.2.2.2.2.1 _ hw) (fun _ h9 => h9) d (kk out ho p e s m args below meth c ρ0 ρ H locs ls C hag hV hS hl)
theorem a_gs5 {idx : Nat} (d : decode mi.2.1 pc = .ok (.getstatic idx, 3)) (hw : Cond.fieldLink mi.1 idx "jdk/internal/util/Preconditions" "SIOOBE_FORMATTER" "Ljava/util/function/BiFunction;" ∈ UW) (kk : ∀ x : Option Nat, AO l g mi al h0 (pc + 3) lc (va_rf x :: st) h k n rt o) : AO l g mi al h0 pc lc st h k n rt o := by
  intro out ho p e s m args below meth c ρ0 ρ H locs ls C hag hV hS hl
  rcases C.2.2.2.2.2.2.2.1.2.1.2.2.2 with hz | hz
  · exact va_gets C.1 C.2.1 hz hS C.2.2.2.1 (C.2.2.2.2.1 _ hw) (fun _ h9 => h9) d (kk none out ho p e s m args below meth c ρ0 ρ H locs ls C hag hV hS hl)
  · obtain ⟨L, hn, hm, hP, hD, hRO, hCL⟩ := id hV
    have fin := kk (some 9301) out ho p e s m args below meth c ρ0 ρ H locs ls C hag hV hS hl
    have e0 : (va_rf (some 9301) :: st).map (mv ρ) = .ref (ρ 9301) :: st.map (mv ρ) := rfl
    rw [e0, hRO.2.2.2.2.2.2.2.2.2.2.1.1] at fin
    exact va_gets C.1 C.2.1 hz hS C.2.2.2.1 (C.2.2.2.2.1 _ hw) (fun _ h9 => h9) d fin
def xsv (h : AH) (r : Nat) : Option Nat := if kd h r = 40 then some (r + 20) else none
def xsc (h : AH) (r : Nat) : Option Int32 := if kd h r = 40 then some 0 else none
theorem a_strv {r idx : Nat} {f : Nat → Option τ} (d : decode mi.2.1 pc = .ok (.getfield idx, 3)) (hw : Cond.fieldLink mi.1 idx "java/lang/String" "value" "[B" ∈ UW) (kk : ∀ x, AO l g mi al h0 (pc + 3) lc (.ref x :: st) h k n rt (f x)) : AO l g mi al h0 pc lc (.ref r :: st) h k n rt ((xsv h r).bind f) := by
  intro out ho p e s m args below meth c ρ0 ρ H locs ls C hag hV hS hl
  obtain ⟨x, hx, hf⟩ := Option.bind_eq_some_iff.mp ho
  unfold xsv at hx
  split at hx
  case isFalse => cases hx
  case isTrue hk =>
    cases hx
    obtain ⟨L, hn, hm, hP, hD, hRO, hCL⟩ := id hV
    obtain ⟨i, hi, rfl⟩ := hRO.2.2.2.1 r hk
    have e1 := (hRO.2.2.1 i hi).1
    have hE := (C.2.2.2.2.2.2.2.1.2.1.2.1.1 i hi).2.2.1
    show W p l e _ s m args below meth c H locs k n _ (F0 m pc ls (.ref (ρ (9100 + i)) :: st.map (mv ρ)))
    rw [e1]
    refine vk_getf C.1 C.2.1 hE hS C.2.2.2.1 (C.2.2.2.2.1 _ hw) (fun _ h9 => h9) d ?_
    have fin := kk (9100 + i + 20) out hf p e s m args below meth c ρ0 ρ H locs ls C hag hV hS hl
    have e0 : (Value.ref (9100 + i + 20) :: st).map (mv ρ) = .ref (ρ (9120 + i)) :: st.map (mv ρ) := by rw [show 9100 + i + 20 = 9120 + i by omega]; rfl
    rw [e0, (hRO.2.2.2.2.2.2.2.1 i hi).1] at fin
    exact fin
theorem a_strc {r idx : Nat} {f : Int32 → Option τ} (d : decode mi.2.1 pc = .ok (.getfield idx, 3)) (hw : Cond.fieldLink mi.1 idx "java/lang/String" "coder" "B" ∈ UW) (kk : ∀ x, AO l g mi al h0 (pc + 3) lc (.int x :: st) h k n rt (f x)) : AO l g mi al h0 pc lc (.ref r :: st) h k n rt ((xsc h r).bind f) := by
  intro out ho p e s m args below meth c ρ0 ρ H locs ls C hag hV hS hl
  obtain ⟨x, hx, hf⟩ := Option.bind_eq_some_iff.mp ho
  unfold xsc at hx
  split at hx
  case isFalse => cases hx
  case isTrue hk =>
    cases hx
    obtain ⟨L, hn, hm, hP, hD, hRO, hCL⟩ := id hV
    obtain ⟨i, hi, rfl⟩ := hRO.2.2.2.1 r hk
    have e1 := (hRO.2.2.1 i hi).1
    have hE := (C.2.2.2.2.2.2.2.1.2.1.2.1.1 i hi).2.1
    show W p l e _ s m args below meth c H locs k n _ (F0 m pc ls (.ref (ρ (9100 + i)) :: st.map (mv ρ)))
    rw [e1]
    refine vk_getf C.1 C.2.1 hE hS C.2.2.2.1 (C.2.2.2.2.1 _ hw) (fun _ h9 => h9) d ?_
    exact kk 0 out hf p e s m args below meth c ρ0 ρ H locs ls C hag hV hS hl
theorem a_acmp_eqE {a b : Nat} {off : Int} (tgt : Nat) (d : decode mi.2.1 pc = .ok (.if_acmp .eq off, 3)) (ht : (pc : Int) + off = (tgt : Int)) (kk : AO l g mi al h0 tgt lc st h k n rt o) : AO l g mi al h0 pc lc (.ref b :: .ref a :: st) h k n rt (if a = b then o else none) := by
  intro out ho p e s m args below meth c ρ0 ρ H locs ls C hag hV hS hl
  split at ho
  case isFalse => cases ho
  case isTrue hab =>
    subst hab
    exact lv_acmp_eq (rx := some (ρ a)) (ry := some (ρ a)) C.1 C.2.1 d ht (fun _ => kk out ho p e s m args below meth c ρ0 ρ H locs ls C hag hV hS hl) (fun hh => absurd rfl hh)
theorem a_acmp_neE {a b : Nat} {off : Int} {tgt : Nat} (d : decode mi.2.1 pc = .ok (.if_acmp .ne off, 3)) (ht : (pc : Int) + off = (tgt : Int)) (kk : AO l g mi al h0 (pc + 3) lc st h k n rt o) : AO l g mi al h0 pc lc (.ref b :: .ref a :: st) h k n rt (if a = b then o else none) := by
  intro out ho p e s m args below meth c ρ0 ρ H locs ls C hag hV hS hl
  split at ho
  case isFalse => cases ho
  case isTrue hab =>
    subst hab
    exact lv_acmp_ne (rx := some (ρ a)) (ry := some (ρ a)) C.1 C.2.1 d ht (fun hh => absurd rfl hh) (fun _ => kk out ho p e s m args below meth c ρ0 ρ H locs ls C hag hV hS hl)
theorem a_ldcM {idx : Nat} (d : decode mi.2.1 pc = .ok (.ldc idx, 2)) (hw : Cond.classLink mi.1 idx "[Ljava/lang/Object;" ∈ UW) (kk : AO l g mi al h0 (pc + 2) lc (.ref 9300 :: st) h k n rt o) : AO l g mi al h0 pc lc st h k n rt o := by
  intro out ho p e s m args below meth c ρ0 ρ H locs ls C hag hV hS hl
  obtain ⟨L, hn, hm, hP, hD, hRO, hCL⟩ := id hV
  have fin := kk out ho p e s m args below meth c ρ0 ρ H locs ls C hag hV hS hl
  have e0 : (Value.ref 9300 :: st).map (mv ρ) = .ref (ρ 9300) :: st.map (mv ρ) := rfl
  rw [e0, hRO.2.2.2.2.2.2.2.2.2.1.1] at fin
  exact va_ldcM C.1 C.2.1 C.2.2.2.1 (C.2.2.2.2.1 _ hw) C.2.2.2.2.2.2.2.1.2.2.1.2.2.2.2.2.2.1 d fin
def xgC (h : AH) (r : Nat) : Option Unit := if kd h r = 23 then some () else none
theorem oarr_at {ρ : Nat → Nat} {s : State} {H : Heap} {r : Nat} (hV : HV g ρ h H) (hK : KK g s) (hk : kd h r = 23) : ∃ cell : Cell, H[ρ r]? = some cell ∧ cell.vm.isStatics = false ∧ s.vm.findClass "[Ljava/lang/Object;" = some cell.cls := by
  obtain ⟨L, hn, hm, hP, hD, hRO, hCL⟩ := id hV
  obtain ⟨q, hq, hc⟩ := HV.in (g := g) (ρ := ρ) hm (r := r) (by rw [hk]; exact ⟨by decide, by decide⟩)
  rw [ec_refs (t := 3) hk (by decide)] at hc
  exact ⟨_, hP q _ hc, rfl, va_nmO ((hK.1.2 3 _ rfl).2) (by decide +kernel)⟩
theorem a_getC {r idx : Nat} {f : Unit → Option τ} (d : decode mi.2.1 pc = .ok (.invokevirtual idx, 3)) (hw : Cond.methodLink mi.1 idx ⟨"java/lang/Object", "getClass", "()Ljava/lang/Class;"⟩ ∈ UW) (hw2 : Cond.selects "[Ljava/lang/Object;" ⟨"java/lang/Object", "getClass", "()Ljava/lang/Class;"⟩ ⟨"java/lang/Object", "getClass", "()Ljava/lang/Class;"⟩ ∈ UW) (hw3 : Cond.instanceMethod ⟨"java/lang/Object", "getClass", "()Ljava/lang/Class;"⟩ ∈ UW) (hw4 : Cond.native ⟨"java/lang/Object", "getClass", "()Ljava/lang/Class;"⟩ ∈ UW) (hf1 : 1 ≤ mi.2.2.2.2.1.frames) (hf2 : 22 ≤ mi.2.2.2.2.1.locals) (hW : (st.map fun v => v.category).sum ≤ 8) (kk : AO l g mi al h0 (pc + 3) lc (.ref 9300 :: st) h k n rt (f ())) : AO l g mi al h0 pc lc (.ref r :: st) h k n rt ((xgC h r).bind f) := by
  intro out ho p e s m args below meth c ρ0 ρ H locs ls C hag hV hS hl
  obtain ⟨u, hx, hf⟩ := Option.bind_eq_some_iff.mp ho
  unfold xgC at hx
  split at hx
  case isFalse => cases hx
  case isTrue hk =>
    have hWr : ((st.map (mv ρ)).map fun v => v.category).sum ≤ 8 := by
      rw [List.map_map]
      have e0 : ((fun v : Value => v.category) ∘ mv ρ) = fun v => v.category := funext fun v => mv_cat ρ v
      rw [e0]
      exact hW
    obtain ⟨L, hn, hm, hP, hD, hRO, hCL⟩ := id hV
    have fin := kk out hf p e s m args below meth c ρ0 ρ H locs ls C hag hV hS hl
    have e0 : (Value.ref 9300 :: st).map (mv ρ) = .ref (ρ 9300) :: st.map (mv ρ) := rfl
    rw [e0, hRO.2.2.2.2.2.2.2.2.2.1.1] at fin
    exact va_getC (C := "[Ljava/lang/Object;") C.1 C.2.1 (C.2.2.1.trans hl.1.symm) C.2.2.2.1 (C.2.2.2.2.1 _ hw) (C.2.2.2.2.2.2.2.1.2.2.1.2.2.2.2.2.2.2.use) (C.2.2.2.2.1 _ hw2) (C.2.2.2.2.1 _ hw3) (C.2.2.2.2.1 _ hw4) C.2.2.2.2.2.2.2.1.2.2.1.2.2.2.2.2.2.1 (oarr_at hV C.2.2.2.2.2.2.2.1 hk) hf1 (by omega) d fin
theorem a_castA {r idx : Nat} {f : Unit → Option τ} (d : decode mi.2.1 pc = .ok (.checkcast idx, 3)) (hw : Cond.classLink mi.1 idx "[Ljava/lang/Object;" ∈ UW) (kk : AO l g mi al h0 (pc + 3) lc (.ref r :: st) h k n rt (f ())) : AO l g mi al h0 pc lc (.ref r :: st) h k n rt ((xgC h r).bind f) := by
  intro out ho p e s m args below meth c ρ0 ρ H locs ls C hag hV hS hl
  obtain ⟨u, hx, hf⟩ := Option.bind_eq_some_iff.mp ho
  unfold xgC at hx
  split at hx
  case isFalse => cases hx
  case isTrue hk =>
    obtain ⟨L, hn, hm, hP, hD, hRO, hCL⟩ := id hV
    obtain ⟨q, hq, hc⟩ := HV.in (g := g) (ρ := ρ) hm (r := r) (by rw [hk]; exact ⟨by decide, by decide⟩)
    rw [ec_refs (t := 3) hk (by decide)] at hc
    exact va_castA C.1 C.2.1 C.2.2.2.1 (C.2.2.2.2.1 _ hw) hP q hc (va_nmO ((C.2.2.2.2.2.2.2.1.1.2 3 _ rfl).2) (by decide +kernel)) d (kk out hf p e s m args below meth c ρ0 ρ H locs ls C hag hV hS hl)
def sarow (h : AH) (r : Nat) (f : Nat → Option Nat) : AH := (h.1, h.2.1, h.2.2.1, h.2.2.2.1, h.2.2.2.2.1, va_up h.2.2.2.2.2 r f)
def xcp (h : AH) (t : Nat) (a : Nat) (sp : Int32) (b : Nat) (dp z : Int32) : Bool := decide (kd h a = t) && decide (kd h b = t) && decide (¬ sp < 0) && decide (¬ dp < 0) && decide (¬ z < 0) && decide (sp.toNatClampNeg + z.toNatClampNeg ≤ ln h a) && decide (dp.toNatClampNeg + z.toNatClampNeg ≤ ln h b)
def xcpi (h : AH) (a : Nat) (sp : Int32) (b : Nat) (dp z : Int32) : Option AH := if xcp h 20 a sp b dp z = true then some (srow h b (va_cpy (ai h a) (ai h b) sp.toNatClampNeg dp.toNatClampNeg z.toNatClampNeg)) else none
def xob (h : AH) (x : Option Nat) : Bool := match x with
  | some y => decide (1 ≤ kd h y) && decide (kd h y ≤ 14)
  | none => true
def xcpq (h : AH) (a : Nat) (sp : Int32) (b : Nat) (dp z : Int32) : Option AH := if xcp h 23 a sp b dp z = true ∧ (List.range z.toNatClampNeg).all (fun i => xob h (ar h a (sp.toNatClampNeg + i))) = true then some (sarow h b (va_cpy (ar h a) (ar h b) sp.toNatClampNeg dp.toNatClampNeg z.toNatClampNeg)) else none
theorem ro_row {ρ : Nat → Nat} {r : Nat} {f : Nat → Int32} (hl : lvk (kd h r)) (hR : ROh g ρ h) : ROh g ρ (srow h r f) := by
  obtain ⟨r1, r2, r3, r4, r5, r6, r7, r8, r9⟩ := hR
  have ne : ∀ j, ¬ lvk (kd h j) → ai (srow h r f) j = ai h j := fun j hj => if_neg (fun e : j = r => hj (e ▸ hl))
  refine ⟨fun i hi => ?_, r2, r3, r4, r5, r6, r7, fun i hi => ?_, r9⟩
  · obtain ⟨h1, h2, h3, h4⟩ := r1 i hi
    exact ⟨h1, h2, h3, (ne _ (by rw [h2]; exact fun z => absurd z.2 (by decide))).trans h4⟩
  · obtain ⟨h1, h2, h3, h4⟩ := r8 i hi
    exact ⟨h1, h2, h3, (ne _ (by rw [h2]; exact fun z => absurd z.2 (by decide))).trans h4⟩
theorem cl_arow {r : Nat} {f : Nat → Option Nat} (hf : ∀ i y, f i = some y → kd h y ≠ 0) (hC : CL h) : CL (sarow h r f) := by
  refine ⟨hC.1, fun j i y hy => ?_⟩
  by_cases hj : j = r
  · subst hj
    rw [show ar (sarow h j f) j = f from if_pos rfl] at hy
    exact hf i y hy
  · rw [show ar (sarow h r f) j = ar h j from if_neg hj] at hy
    exact hC.2 j i y hy
theorem a_cpyi {a b idx : Nat} {sp dp z : Int32} {f : AH → Option τ} (d : decode mi.2.1 pc = .ok (.invokestatic idx, 3)) (hw : Cond.methodLink mi.1 idx arraycopyName ∈ UW) (hw2 : Cond.native arraycopyName ∈ UW) (hw3 : Cond.static arraycopyName ∈ UW) (hw4 : Cond.initialized "java/lang/System" ∈ UW) (hf1 : 1 ≤ mi.2.2.2.2.1.frames) (hf2 : 30 ≤ mi.2.2.2.2.1.locals) (hW : (st.map fun v => v.category).sum ≤ 8) (kk : ∀ h2, AO l g mi al h0 (pc + 3) lc st h2 k n rt (f h2)) : AO l g mi al h0 pc lc (.int z :: .int dp :: .ref b :: .int sp :: .ref a :: st) h k n rt ((xcpi h a sp b dp z).bind f) := by
  intro out ho p e s m args below meth c ρ0 ρ H locs ls C hag hV hS hl
  obtain ⟨h', hx, hf⟩ := Option.bind_eq_some_iff.mp ho
  unfold xcpi at hx
  split at hx
  case isFalse => cases hx
  case isTrue hk0 =>
    cases hx
    simp only [xcp, Bool.and_eq_true, decide_eq_true_eq] at hk0
    obtain ⟨⟨⟨⟨⟨⟨ka, kb⟩, c1⟩, c2⟩, c3⟩, c4⟩, c5⟩ := hk0
    have hWr : ((st.map (mv ρ)).map fun v => v.category).sum ≤ 8 := by
      rw [List.map_map]
      have e0 : ((fun v : Value => v.category) ∘ mv ρ) = fun v => v.category := funext fun v => mv_cat ρ v
      rw [e0]
      exact hW
    have hnw : nativeFrameWords "java/lang/System" "arraycopy" 5 ≤ 11 := by decide
    obtain ⟨L, hn, hm, hP, hD, hRO, hCL⟩ := id hV
    have hlv : lvk (kd h b) := by rw [kb]; exact ⟨by decide, by decide⟩
    obtain ⟨qa, hqa, hca⟩ := HV.in (g := g) (ρ := ρ) hm (r := a) (by rw [ka]; exact ⟨by decide, by decide⟩)
    obtain ⟨q, hq, hc⟩ := HV.in (g := g) (ρ := ρ) hm (r := b) hlv
    rw [ec_ints (t := 0) ka (by decide)] at hca
    rw [ec_ints (t := 0) kb (by decide)] at hc
    refine va_copyi C.1 C.2.1 (C.2.2.1.trans hl.1.symm) C.2.2.2.1 (C.2.2.2.2.1 _ hw) (C.2.2.2.2.1 _ hw2) (C.2.2.2.2.1 _ hw3) (C.2.2.2.2.1 _ hw4) C.2.2.2.2.2.2.2.1.1 hP hD hS qa q 0 0 (ty := .int) hca hc rfl rfl rfl c1 c2 c3 c4 c5 (fun _ _ => rfl) hf1 (by omega) d (fun H1 locs1 hP1 hD1 hS1 => ?_)
    refine kk _ out hf p e s m args below meth c ρ0 ρ H1 locs1 ls C (hag.put rfl) (HV.put (h' := srow h b (va_cpy (ai h a) (ai h b) sp.toNatClampNeg dp.toNatClampNeg z.toNatClampNeg)) hn hm hq (ro_row hlv hRO) (CL.put rfl rfl rfl hCL) rfl ?_ (fun j hj => ?_) hP1 hD1) hS1 hl
    · rw [ec_ints (t := 0) (show kd (srow h b _) b = 20 + 0 from kb) (by decide), show ai (srow h b (va_cpy (ai h a) (ai h b) sp.toNatClampNeg dp.toNatClampNeg z.toNatClampNeg)) b = _ from if_pos rfl]
      rfl
    · unfold ec
      rw [show ai (srow h b (va_cpy (ai h a) (ai h b) sp.toNatClampNeg dp.toNatClampNeg z.toNatClampNeg)) j = ai h j from if_neg hj]
      rfl
theorem a_cpyq {a b idx : Nat} {sp dp z : Int32} {f : AH → Option τ} (d : decode mi.2.1 pc = .ok (.invokestatic idx, 3)) (hw : Cond.methodLink mi.1 idx arraycopyName ∈ UW) (hw2 : Cond.native arraycopyName ∈ UW) (hw3 : Cond.static arraycopyName ∈ UW) (hw4 : Cond.initialized "java/lang/System" ∈ UW) (hf1 : 1 ≤ mi.2.2.2.2.1.frames) (hf2 : 30 ≤ mi.2.2.2.2.1.locals) (hW : (st.map fun v => v.category).sum ≤ 8) (kk : ∀ h2, AO l g mi al h0 (pc + 3) lc st h2 k n rt (f h2)) : AO l g mi al h0 pc lc (.int z :: .int dp :: .ref b :: .int sp :: .ref a :: st) h k n rt ((xcpq h a sp b dp z).bind f) := by
  intro out ho p e s m args below meth c ρ0 ρ H locs ls C hag hV hS hl
  obtain ⟨h', hx, hf⟩ := Option.bind_eq_some_iff.mp ho
  unfold xcpq at hx
  split at hx
  case isFalse => cases hx
  case isTrue hk1 =>
    cases hx
    obtain ⟨hk0, hob⟩ := hk1
    simp only [xcp, Bool.and_eq_true, decide_eq_true_eq] at hk0
    obtain ⟨⟨⟨⟨⟨⟨ka, kb⟩, c1⟩, c2⟩, c3⟩, c4⟩, c5⟩ := hk0
    have hWr : ((st.map (mv ρ)).map fun v => v.category).sum ≤ 8 := by
      rw [List.map_map]
      have e0 : ((fun v : Value => v.category) ∘ mv ρ) = fun v => v.category := funext fun v => mv_cat ρ v
      rw [e0]
      exact hW
    have hnw : nativeFrameWords "java/lang/System" "arraycopy" 5 ≤ 11 := by decide
    obtain ⟨L, hn, hm, hP, hD, hRO, hCL⟩ := id hV
    have hlv : lvk (kd h b) := by rw [kb]; exact ⟨by decide, by decide⟩
    obtain ⟨qa, hqa, hca⟩ := HV.in (g := g) (ρ := ρ) hm (r := a) (by rw [ka]; exact ⟨by decide, by decide⟩)
    obtain ⟨q, hq, hc⟩ := HV.in (g := g) (ρ := ρ) hm (r := b) hlv
    rw [ec_refs (t := 3) ka (by decide)] at hca
    rw [ec_refs (t := 3) kb (by decide)] at hc
    have hany : ∀ i : Nat, i < z.toNatClampNeg → ∀ y : Nat, (ar h a (sp.toNatClampNeg + i)).map ρ = some y → va_Any "java/lang/Object" s H y := by
      intro i hi y hy
      have h1 := List.all_eq_true.mp hob i (List.mem_range.mpr hi)
      cases hx : ar h a (sp.toNatClampNeg + i) with
      | none => rw [hx] at hy; cases hy
      | some w =>
        rw [hx] at hy h1
        cases hy
        simp only [xob, Bool.and_eq_true, decide_eq_true_eq] at h1
        obtain ⟨qw, hqw, hcw⟩ := HV.in (g := g) (ρ := ρ) hm (r := w) (by unfold lvk; omega)
        rw [ec_obj (c := kd h w - 1) (by omega) (by omega)] at hcw
        refine va_rAny C.2.2.2.2.2.2.2.1.1 hP hcw (vw_at (by omega)) (fun comp c0 e1 e2 => ?_)
        obtain ⟨c9, t9, f1, f2, f3⟩ := Cond.castable_spec (va_Nw.use (A := args) rfl (C.2.2.2.2.2.2.2.1.2.2.1.2.2.1 _ (cal_ok ⟨kd h w - 1, by omega⟩)))
        cases e2.symm.trans f1
        cases e1.symm.trans f2
        exact f3
    refine va_copyM C.1 C.2.1 (C.2.2.1.trans hl.1.symm) C.2.2.2.1 (C.2.2.2.2.1 _ hw) (C.2.2.2.2.1 _ hw2) (C.2.2.2.2.1 _ hw3) (C.2.2.2.2.1 _ hw4) C.2.2.2.2.2.2.2.1.1 hP hD hS qa q 3 3 hca hc rfl rfl c1 c2 c3 c4 c5 hany hf1 (by omega) d (fun H1 locs1 hP1 hD1 hS1 => ?_)
    have hcl : ∀ i y, va_cpy (ar h a) (ar h b) sp.toNatClampNeg dp.toNatClampNeg z.toNatClampNeg i = some y → kd h y ≠ 0 := by
      intro i y hy
      unfold va_cpy at hy
      split at hy
      · exact hCL.2 _ _ y hy
      · exact hCL.2 _ _ y hy
    refine kk _ out hf p e s m args below meth c ρ0 ρ H1 locs1 ls C (hag.put rfl) (HV.put (h' := sarow h b (va_cpy (ar h a) (ar h b) sp.toNatClampNeg dp.toNatClampNeg z.toNatClampNeg)) hn hm hq hRO (cl_arow hcl hCL) rfl ?_ (fun j hj => ?_) hP1 hD1) hS1 hl
    · rw [ec_refs (t := 3) (show kd (sarow h b _) b = 20 + 3 from kb) (by decide), show ar (sarow h b (va_cpy (ar h a) (ar h b) sp.toNatClampNeg dp.toNatClampNeg z.toNatClampNeg)) b = _ from if_pos rfl]
      refine congrArg (fun z => Sum.inl (gcs g 3, (ln h b, Sum.inr (Sum.inr (Sum.inr (Sum.inr z)))))) ?_
      funext i
      unfold va_cpy
      by_cases hi : dp.toNatClampNeg ≤ i ∧ i < dp.toNatClampNeg + z.toNatClampNeg
      · rw [if_pos hi, if_pos hi]
      · rw [if_neg hi, if_neg hi]
    · unfold ec
      rw [show ar (sarow h b (va_cpy (ar h a) (ar h b) sp.toNatClampNeg dp.toNatClampNeg z.toNatClampNeg)) j = ar h j from if_neg hj]
      rfl
def isCrop (k : Nat) : Prop := k = 2 ∨ k = 3 ∨ k = 6 ∨ k = 7
def xgc (h : AH) (r k : Nat) : Option Int32 := if kd h r = 2 ∨ kd h r = 3 ∨ kd h r = 6 ∨ kd h r = 7 then some (fi h r k) else none
def xgcr (h : AH) (r k : Nat) : Option Nat := if kd h r = 2 ∨ kd h r = 3 ∨ kd h r = 6 ∨ kd h r = 7 then fr h r k else none
def xpc (h : AH) (r k : Nat) (x : Int32) : Option AH := if kd h r = 2 ∨ kd h r = 3 ∨ kd h r = 6 ∨ kd h r = 7 then some (sfi h r k x) else none
def xpcr (h : AH) (r k x : Nat) : Option AH := if (kd h r = 2 ∨ kd h r = 3 ∨ kd h r = 6 ∨ kd h r = 7) ∧ kd h x ≠ 0 then some (sfr h r k (some x)) else none
theorem a_gc0 {r idx : Nat}  {f : Int32 → Option τ} (d : decode mi.2.1 pc = .ok (.getfield idx, 3)) (hw : Cond.fieldLink mi.1 idx "RainCover$Crop" "number" "I" ∈ UW) (kk : ∀ x, AO l g mi al h0 (pc + 3) lc (.int x :: st) h k n rt (f x)) : AO l g mi al h0 pc lc (.ref r :: st) h k n rt ((xgc h r 0).bind f) := by
  by_cases h2 : kd h r = 2
  · rw [show xgc h r 0 = xgi h r 1 0 by unfold xgc xgi; simp [h2]]
    exact a_geti kc1 0 d (by decide) rfl hw kk
  · by_cases h3 : kd h r = 3
    · rw [show xgc h r 0 = xgi h r 2 0 by unfold xgc xgi; simp [h3]]
      exact a_geti kc2 0 d (by decide) rfl hw kk
    · by_cases h6 : kd h r = 6
      · rw [show xgc h r 0 = xgi h r 5 0 by unfold xgc xgi; simp [h6]]
        exact a_geti kc5 0 d (by decide) rfl hw kk
      · by_cases h7 : kd h r = 7
        · rw [show xgc h r 0 = xgi h r 6 0 by unfold xgc xgi; simp [h7]]
          exact a_geti kc6 0 d (by decide) rfl hw kk
        · rw [show xgc h r 0 = none by unfold xgc; simp [h2, h3, h6, h7]]
          exact a_none
theorem a_gc1 {r idx : Nat}  {f : Int32 → Option τ} (d : decode mi.2.1 pc = .ok (.getfield idx, 3)) (hw : Cond.fieldLink mi.1 idx "RainCover$Crop" "area" "I" ∈ UW) (kk : ∀ x, AO l g mi al h0 (pc + 3) lc (.int x :: st) h k n rt (f x)) : AO l g mi al h0 pc lc (.ref r :: st) h k n rt ((xgc h r 1).bind f) := by
  by_cases h2 : kd h r = 2
  · rw [show xgc h r 1 = xgi h r 1 1 by unfold xgc xgi; simp [h2]]
    exact a_geti kc1 1 d (by decide) rfl hw kk
  · by_cases h3 : kd h r = 3
    · rw [show xgc h r 1 = xgi h r 2 1 by unfold xgc xgi; simp [h3]]
      exact a_geti kc2 1 d (by decide) rfl hw kk
    · by_cases h6 : kd h r = 6
      · rw [show xgc h r 1 = xgi h r 5 1 by unfold xgc xgi; simp [h6]]
        exact a_geti kc5 1 d (by decide) rfl hw kk
      · by_cases h7 : kd h r = 7
        · rw [show xgc h r 1 = xgi h r 6 1 by unfold xgc xgi; simp [h7]]
          exact a_geti kc6 1 d (by decide) rfl hw kk
        · rw [show xgc h r 1 = none by unfold xgc; simp [h2, h3, h6, h7]]
          exact a_none
theorem a_gc3 {r idx : Nat}  {f : Int32 → Option τ} (d : decode mi.2.1 pc = .ok (.getfield idx, 3)) (hw : Cond.fieldLink mi.1 idx "RainCover$Crop" "ran" "I" ∈ UW) (kk : ∀ x, AO l g mi al h0 (pc + 3) lc (.int x :: st) h k n rt (f x)) : AO l g mi al h0 pc lc (.ref r :: st) h k n rt ((xgc h r 3).bind f) := by
  by_cases h2 : kd h r = 2
  · rw [show xgc h r 3 = xgi h r 1 3 by unfold xgc xgi; simp [h2]]
    exact a_geti kc1 3 d (by decide) rfl hw kk
  · by_cases h3 : kd h r = 3
    · rw [show xgc h r 3 = xgi h r 2 3 by unfold xgc xgi; simp [h3]]
      exact a_geti kc2 3 d (by decide) rfl hw kk
    · by_cases h6 : kd h r = 6
      · rw [show xgc h r 3 = xgi h r 5 3 by unfold xgc xgi; simp [h6]]
        exact a_geti kc5 3 d (by decide) rfl hw kk
      · by_cases h7 : kd h r = 7
        · rw [show xgc h r 3 = xgi h r 6 3 by unfold xgc xgi; simp [h7]]
          exact a_geti kc6 3 d (by decide) rfl hw kk
        · rw [show xgc h r 3 = none by unfold xgc; simp [h2, h3, h6, h7]]
          exact a_none
theorem a_gc2 {r idx : Nat}  {f : Nat → Option τ} (d : decode mi.2.1 pc = .ok (.getfield idx, 3)) (hw : Cond.fieldLink mi.1 idx "RainCover$Crop" "bodies" "[I" ∈ UW) (kk : ∀ x, AO l g mi al h0 (pc + 3) lc (.ref x :: st) h k n rt (f x)) : AO l g mi al h0 pc lc (.ref r :: st) h k n rt ((xgcr h r 2).bind f) := by
  by_cases h2 : kd h r = 2
  · rw [show xgcr h r 2 = xgr h r 1 2 by unfold xgcr xgr; simp [h2]]
    exact a_getr kc1 2 d (by decide) rfl hw kk
  · by_cases h3 : kd h r = 3
    · rw [show xgcr h r 2 = xgr h r 2 2 by unfold xgcr xgr; simp [h3]]
      exact a_getr kc2 2 d (by decide) rfl hw kk
    · by_cases h6 : kd h r = 6
      · rw [show xgcr h r 2 = xgr h r 5 2 by unfold xgcr xgr; simp [h6]]
        exact a_getr kc5 2 d (by decide) rfl hw kk
      · by_cases h7 : kd h r = 7
        · rw [show xgcr h r 2 = xgr h r 6 2 by unfold xgcr xgr; simp [h7]]
          exact a_getr kc6 2 d (by decide) rfl hw kk
        · rw [show xgcr h r 2 = none by unfold xgcr; simp [h2, h3, h6, h7]]
          exact a_none
theorem a_gc0S {r idx : Nat}  {f : Int32 → Option τ} (d : decode mi.2.1 pc = .ok (.getfield idx, 3)) {ref : String} (hw : Cond.fieldLink mi.1 idx ref "number" "I" ∈ UW) (hs : Cond.sameField ref "RainCover$Crop" "number" "I" ∈ UW) (kk : ∀ x, AO l g mi al h0 (pc + 3) lc (.int x :: st) h k n rt (f x)) : AO l g mi al h0 pc lc (.ref r :: st) h k n rt ((xgc h r 0).bind f) := by
  by_cases h2 : kd h r = 2
  · rw [show xgc h r 0 = xgi h r 1 0 by unfold xgc xgi; simp [h2]]
    exact a_getiS kc1 0 d (by decide) rfl hw hs kk
  · by_cases h3 : kd h r = 3
    · rw [show xgc h r 0 = xgi h r 2 0 by unfold xgc xgi; simp [h3]]
      exact a_getiS kc2 0 d (by decide) rfl hw hs kk
    · by_cases h6 : kd h r = 6
      · rw [show xgc h r 0 = xgi h r 5 0 by unfold xgc xgi; simp [h6]]
        exact a_getiS kc5 0 d (by decide) rfl hw hs kk
      · by_cases h7 : kd h r = 7
        · rw [show xgc h r 0 = xgi h r 6 0 by unfold xgc xgi; simp [h7]]
          exact a_getiS kc6 0 d (by decide) rfl hw hs kk
        · rw [show xgc h r 0 = none by unfold xgc; simp [h2, h3, h6, h7]]
          exact a_none
theorem a_pc3 {r idx : Nat} {v : Int32} {f : AH → Option τ} (d : decode mi.2.1 pc = .ok (.putfield idx, 3)) (hw : Cond.fieldLink mi.1 idx "RainCover$Crop" "ran" "I" ∈ UW) (kk : ∀ x, AO l g mi al h0 (pc + 3) lc st x k n rt (f x)) : AO l g mi al h0 pc lc (.int v :: .ref r :: st) h k n rt ((xpc h r 3 v).bind f) := by
  by_cases h2 : kd h r = 2
  · rw [show xpc h r 3 v = xpi h r 1 3 v by unfold xpc xpi; simp [h2]]
    exact a_puti kc1 3 d (by decide) rfl hw rfl rfl kk
  · by_cases h3 : kd h r = 3
    · rw [show xpc h r 3 v = xpi h r 2 3 v by unfold xpc xpi; simp [h3]]
      exact a_puti kc2 3 d (by decide) rfl hw rfl rfl kk
    · by_cases h6 : kd h r = 6
      · rw [show xpc h r 3 v = xpi h r 5 3 v by unfold xpc xpi; simp [h6]]
        exact a_puti kc5 3 d (by decide) rfl hw rfl rfl kk
      · by_cases h7 : kd h r = 7
        · rw [show xpc h r 3 v = xpi h r 6 3 v by unfold xpc xpi; simp [h7]]
          exact a_puti kc6 3 d (by decide) rfl hw rfl rfl kk
        · rw [show xpc h r 3 v = none by unfold xpc; simp [h2, h3, h6, h7]]
          exact a_none
theorem a_pc0F {r idx : Nat} {v : Int32} {f : AH → Option τ} (d : decode mi.2.1 pc = .ok (.putfield idx, 3)) (hw : Cond.fieldLink mi.1 idx "RainCover$Crop" "number" "I" ∈ UW) (hini : mi.2.2.2.2.2.2.2 = true) (hdc : "RainCover$Crop" = mi.1) (kk : ∀ x, AO l g mi al h0 (pc + 3) lc st x k n rt (f x)) : AO l g mi al h0 pc lc (.int v :: .ref r :: st) h k n rt ((xpc h r 0 v).bind f) := by
  by_cases h2 : kd h r = 2
  · rw [show xpc h r 0 v = xpi h r 1 0 v by unfold xpc xpi; simp [h2]]
    exact a_putiF kc1 0 d (by decide) rfl hw rfl rfl hini hdc kk
  · by_cases h3 : kd h r = 3
    · rw [show xpc h r 0 v = xpi h r 2 0 v by unfold xpc xpi; simp [h3]]
      exact a_putiF kc2 0 d (by decide) rfl hw rfl rfl hini hdc kk
    · by_cases h6 : kd h r = 6
      · rw [show xpc h r 0 v = xpi h r 5 0 v by unfold xpc xpi; simp [h6]]
        exact a_putiF kc5 0 d (by decide) rfl hw rfl rfl hini hdc kk
      · by_cases h7 : kd h r = 7
        · rw [show xpc h r 0 v = xpi h r 6 0 v by unfold xpc xpi; simp [h7]]
          exact a_putiF kc6 0 d (by decide) rfl hw rfl rfl hini hdc kk
        · rw [show xpc h r 0 v = none by unfold xpc; simp [h2, h3, h6, h7]]
          exact a_none
theorem a_pc1F {r idx : Nat} {v : Int32} {f : AH → Option τ} (d : decode mi.2.1 pc = .ok (.putfield idx, 3)) (hw : Cond.fieldLink mi.1 idx "RainCover$Crop" "area" "I" ∈ UW) (hini : mi.2.2.2.2.2.2.2 = true) (hdc : "RainCover$Crop" = mi.1) (kk : ∀ x, AO l g mi al h0 (pc + 3) lc st x k n rt (f x)) : AO l g mi al h0 pc lc (.int v :: .ref r :: st) h k n rt ((xpc h r 1 v).bind f) := by
  by_cases h2 : kd h r = 2
  · rw [show xpc h r 1 v = xpi h r 1 1 v by unfold xpc xpi; simp [h2]]
    exact a_putiF kc1 1 d (by decide) rfl hw rfl rfl hini hdc kk
  · by_cases h3 : kd h r = 3
    · rw [show xpc h r 1 v = xpi h r 2 1 v by unfold xpc xpi; simp [h3]]
      exact a_putiF kc2 1 d (by decide) rfl hw rfl rfl hini hdc kk
    · by_cases h6 : kd h r = 6
      · rw [show xpc h r 1 v = xpi h r 5 1 v by unfold xpc xpi; simp [h6]]
        exact a_putiF kc5 1 d (by decide) rfl hw rfl rfl hini hdc kk
      · by_cases h7 : kd h r = 7
        · rw [show xpc h r 1 v = xpi h r 6 1 v by unfold xpc xpi; simp [h7]]
          exact a_putiF kc6 1 d (by decide) rfl hw rfl rfl hini hdc kk
        · rw [show xpc h r 1 v = none by unfold xpc; simp [h2, h3, h6, h7]]
          exact a_none
theorem a_pc2F {r idx : Nat} {v : Nat} {f : AH → Option τ} (d : decode mi.2.1 pc = .ok (.putfield idx, 3)) (hw : Cond.fieldLink mi.1 idx "RainCover$Crop" "bodies" "[I" ∈ UW) (hini : mi.2.2.2.2.2.2.2 = true) (hdc : "RainCover$Crop" = mi.1) (kk : ∀ x, AO l g mi al h0 (pc + 3) lc st x k n rt (f x)) : AO l g mi al h0 pc lc (.ref v :: .ref r :: st) h k n rt ((xpcr h r 2 v).bind f) := by
  by_cases h2 : kd h r = 2
  · rw [show xpcr h r 2 v = xpr h r 1 2 v by unfold xpcr xpr; simp [h2]]
    exact a_putrF kc1 2 d (by decide) rfl hw (fun _ => ⟨rfl, rfl⟩) rfl hini hdc kk
  · by_cases h3 : kd h r = 3
    · rw [show xpcr h r 2 v = xpr h r 2 2 v by unfold xpcr xpr; simp [h3]]
      exact a_putrF kc2 2 d (by decide) rfl hw (fun _ => ⟨rfl, rfl⟩) rfl hini hdc kk
    · by_cases h6 : kd h r = 6
      · rw [show xpcr h r 2 v = xpr h r 5 2 v by unfold xpcr xpr; simp [h6]]
        exact a_putrF kc5 2 d (by decide) rfl hw (fun _ => ⟨rfl, rfl⟩) rfl hini hdc kk
      · by_cases h7 : kd h r = 7
        · rw [show xpcr h r 2 v = xpr h r 6 2 v by unfold xpcr xpr; simp [h7]]
          exact a_putrF kc6 2 d (by decide) rfl hw (fun _ => ⟨rfl, rfl⟩) rfl hini hdc kk
        · rw [show xpcr h r 2 v = none by unfold xpcr; simp [h2, h3, h6, h7]]
          exact a_none
theorem a_br {σ : Type} {P : Prop} [Decidable P] {oa ob : Option σ} {f : σ → Option τ} (ka : P → AO l g mi al h0 pc lc st h k n rt (oa.bind f)) (kb : ¬ P → AO l g mi al h0 pc lc st h k n rt (ob.bind f)) : AO l g mi al h0 pc lc st h k n rt ((if P then oa else ob).bind f) := by
  by_cases hP : P
  · rw [if_pos hP]; exact ka hP
  · rw [if_neg hP]; exact kb hP
theorem a_nb {σ : Type} {f : σ → Option τ} : AO l g mi al h0 pc lc st h k n rt ((none : Option σ).bind f) := a_none
theorem a_cI_Sv {y : MethodName} {mj : MI} {as : List Value} {o' : Option AH} {f : AH → Option τ} {stk : List Value} {idx : Nat} {r : Nat} (d : decode mi.2.1 pc = .ok (.invokespecial idx, 3)) (hc : CN l g y mj false (.ref r :: as) h rSv o') (hst : stk = as.reverse ++ .ref r :: st) (km : KM y mj as.length) (hm : mj.2.2.2.2.2.1 = 0 ∧ mj.2.2.2.2.2.2.1 = 0) (hret : mj.2.2.2.1 = none) (hy : y.name = "<init>") (hw : Cond.methodLink mi.1 idx y ∈ UW) (hw2 : Cond.instanceMethod y ∈ UW) (kr : KR mi mj k n) (hW : (st.map fun v => v.category).sum ≤ 8) (kk : ∀ x, AO l g mi al h0 (pc + 3) lc (st) x k n rt (f x)) : AO l g mi al h0 pc lc stk h k n rt (o'.bind f) :=
  a_cI d hc hst km hret hy hw hw2 kr hW (fun x _ => by rw [hm.1, hm.2]; exact kk x)
theorem a_cI_Pv {y : MethodName} {mj : MI} {as : List Value} {o' : Option Unit} {f : Unit → Option τ} {stk : List Value} {idx : Nat} {r : Nat} (d : decode mi.2.1 pc = .ok (.invokespecial idx, 3)) (hc : CN l g y mj false (.ref r :: as) h (rPv h) o') (hst : stk = as.reverse ++ .ref r :: st) (km : KM y mj as.length) (hm : mj.2.2.2.2.2.1 = 0 ∧ mj.2.2.2.2.2.2.1 = 0) (hret : mj.2.2.2.1 = none) (hy : y.name = "<init>") (hw : Cond.methodLink mi.1 idx y ∈ UW) (hw2 : Cond.instanceMethod y ∈ UW) (kr : KR mi mj k n) (hW : (st.map fun v => v.category).sum ≤ 8) (kk : ∀ x, AO l g mi al h0 (pc + 3) lc (st) h k n rt (f x)) : AO l g mi al h0 pc lc stk h k n rt (o'.bind f) :=
  a_cI d hc hst km hret hy hw hw2 kr hW (fun x _ => by rw [hm.1, hm.2]; exact kk x)
theorem a_cIN_Sv {y : MethodName} {mj : MI} {as : List Value} {o' : Option AH} {f : AH → Option τ} {stk : List Value} {idx : Nat} {r : Nat} {host : String} (d : decode mi.2.1 pc = .ok (.invokespecial idx, 3)) (hc : CN l g y mj false (.ref r :: as) h rSv o') (hst : stk = as.reverse ++ .ref r :: st) (km : KM y mj as.length) (hm : mj.2.2.2.2.2.1 = 0 ∧ mj.2.2.2.2.2.2.1 = 0) (hret : mj.2.2.2.1 = none) (hy : y.name = "<init>") (hw : (mi.1, idx, y, host) ∈ NML) (hw2 : Cond.instanceMethod y ∈ UW) (kr : KR mi mj k n) (hW : (st.map fun v => v.category).sum ≤ 8) (kk : ∀ x, AO l g mi al h0 (pc + 3) lc (st) x k n rt (f x)) : AO l g mi al h0 pc lc stk h k n rt (o'.bind f) :=
  a_cIN d hc hst km hret hy hw hw2 kr hW (fun x _ => by rw [hm.1, hm.2]; exact kk x)
theorem a_cIN_Pv {y : MethodName} {mj : MI} {as : List Value} {o' : Option Unit} {f : Unit → Option τ} {stk : List Value} {idx : Nat} {r : Nat} {host : String} (d : decode mi.2.1 pc = .ok (.invokespecial idx, 3)) (hc : CN l g y mj false (.ref r :: as) h (rPv h) o') (hst : stk = as.reverse ++ .ref r :: st) (km : KM y mj as.length) (hm : mj.2.2.2.2.2.1 = 0 ∧ mj.2.2.2.2.2.2.1 = 0) (hret : mj.2.2.2.1 = none) (hy : y.name = "<init>") (hw : (mi.1, idx, y, host) ∈ NML) (hw2 : Cond.instanceMethod y ∈ UW) (kr : KR mi mj k n) (hW : (st.map fun v => v.category).sum ≤ 8) (kk : ∀ x, AO l g mi al h0 (pc + 3) lc (st) h k n rt (f x)) : AO l g mi al h0 pc lc stk h k n rt (o'.bind f) :=
  a_cIN d hc hst km hret hy hw hw2 kr hW (fun x _ => by rw [hm.1, hm.2]; exact kk x)
theorem a_cU_Pi {y : MethodName} {mj : MI} {as : List Value} {o' : Option Int32} {f : Int32 → Option τ} {stk : List Value} {idx : Nat} {r ci : Nat} {CNm : String} {T : u_T} {N : Nat} (d : decode mi.2.1 pc = .ok (.invokevirtual idx, 3)) (hc : CN l g y mj false (.ref r :: as) h (rPi h) o') (hst : stk = as.reverse ++ .ref r :: st) (km : KM y mj as.length) (hm : mj.2.2.2.2.2.1 = 0 ∧ mj.2.2.2.2.2.2.1 = 0) (x1 : MethodName) (owner : String) (hcl : vwCl[ci]? = some (CNm, T, N)) (h20 : ci + 1 < 20) (hg : ∀ x, o' = some x → kd h r = ci + 1) (hw : Cond.methodLink mi.1 idx x1 ∈ UW) (hw1 : Cond.sameMethod x1.cls owner x1.name x1.desc ∈ UW) (hw2 : Cond.instanceMethod y ∈ UW) (hw3 : Cond.selects CNm x1 y ∈ UW) (hw4 : y = ⟨owner, x1.name, x1.desc⟩ ∨ (Cond.instanceMethod ⟨owner, x1.name, x1.desc⟩ ∈ UW ∧ ∃ b0 m0 r0, Cond.code ⟨owner, x1.name, x1.desc⟩ b0 m0 r0 ∈ UW)) (hd : owner ≠ "java/lang/invoke/MethodHandle" ∧ owner ≠ "java/lang/invoke/VarHandle" ∧ (parseMethodDescriptor x1.desc).map (fun d => d.parameters.length) = some as.length) (kr : KR mi mj k n) (hW : (st.map fun v => v.category).sum ≤ 8) (kk : ∀ x, AO l g mi al h0 (pc + 3) lc (.int x :: st) h k n rt (f x)) : AO l g mi al h0 pc lc stk h k n rt (o'.bind f) :=
  a_cU d hc hst km x1 owner hcl h20 hg hw hw1 hw2 hw3 hw4 hd kr hW (fun x _ => by rw [hm.1, hm.2]; exact kk x)
theorem a_cU_Si {y : MethodName} {mj : MI} {as : List Value} {o' : Option (Int32 × AH)} {f : (Int32 × AH) → Option τ} {stk : List Value} {idx : Nat} {r ci : Nat} {CNm : String} {T : u_T} {N : Nat} (d : decode mi.2.1 pc = .ok (.invokevirtual idx, 3)) (hc : CN l g y mj false (.ref r :: as) h rSi o') (hst : stk = as.reverse ++ .ref r :: st) (km : KM y mj as.length) (hm : mj.2.2.2.2.2.1 = 0 ∧ mj.2.2.2.2.2.2.1 = 0) (x1 : MethodName) (owner : String) (hcl : vwCl[ci]? = some (CNm, T, N)) (h20 : ci + 1 < 20) (hg : ∀ x, o' = some x → kd h r = ci + 1) (hw : Cond.methodLink mi.1 idx x1 ∈ UW) (hw1 : Cond.sameMethod x1.cls owner x1.name x1.desc ∈ UW) (hw2 : Cond.instanceMethod y ∈ UW) (hw3 : Cond.selects CNm x1 y ∈ UW) (hw4 : y = ⟨owner, x1.name, x1.desc⟩ ∨ (Cond.instanceMethod ⟨owner, x1.name, x1.desc⟩ ∈ UW ∧ ∃ b0 m0 r0, Cond.code ⟨owner, x1.name, x1.desc⟩ b0 m0 r0 ∈ UW)) (hd : owner ≠ "java/lang/invoke/MethodHandle" ∧ owner ≠ "java/lang/invoke/VarHandle" ∧ (parseMethodDescriptor x1.desc).map (fun d => d.parameters.length) = some as.length) (kr : KR mi mj k n) (hW : (st.map fun v => v.category).sum ≤ 8) (kk : ∀ x, AO l g mi al h0 (pc + 3) lc (.int x.1 :: st) x.2 k n rt (f x)) : AO l g mi al h0 pc lc stk h k n rt (o'.bind f) :=
  a_cU d hc hst km x1 owner hcl h20 hg hw hw1 hw2 hw3 hw4 hd kr hW (fun x _ => by rw [hm.1, hm.2]; exact kk x)
theorem a_cU_Sv {y : MethodName} {mj : MI} {as : List Value} {o' : Option AH} {f : AH → Option τ} {stk : List Value} {idx : Nat} {r ci : Nat} {CNm : String} {T : u_T} {N : Nat} (d : decode mi.2.1 pc = .ok (.invokevirtual idx, 3)) (hc : CN l g y mj false (.ref r :: as) h rSv o') (hst : stk = as.reverse ++ .ref r :: st) (km : KM y mj as.length) (hm : mj.2.2.2.2.2.1 = 0 ∧ mj.2.2.2.2.2.2.1 = 0) (x1 : MethodName) (owner : String) (hcl : vwCl[ci]? = some (CNm, T, N)) (h20 : ci + 1 < 20) (hg : ∀ x, o' = some x → kd h r = ci + 1) (hw : Cond.methodLink mi.1 idx x1 ∈ UW) (hw1 : Cond.sameMethod x1.cls owner x1.name x1.desc ∈ UW) (hw2 : Cond.instanceMethod y ∈ UW) (hw3 : Cond.selects CNm x1 y ∈ UW) (hw4 : y = ⟨owner, x1.name, x1.desc⟩ ∨ (Cond.instanceMethod ⟨owner, x1.name, x1.desc⟩ ∈ UW ∧ ∃ b0 m0 r0, Cond.code ⟨owner, x1.name, x1.desc⟩ b0 m0 r0 ∈ UW)) (hd : owner ≠ "java/lang/invoke/MethodHandle" ∧ owner ≠ "java/lang/invoke/VarHandle" ∧ (parseMethodDescriptor x1.desc).map (fun d => d.parameters.length) = some as.length) (kr : KR mi mj k n) (hW : (st.map fun v => v.category).sum ≤ 8) (kk : ∀ x, AO l g mi al h0 (pc + 3) lc (st) x k n rt (f x)) : AO l g mi al h0 pc lc stk h k n rt (o'.bind f) :=
  a_cU d hc hst km x1 owner hcl h20 hg hw hw1 hw2 hw3 hw4 hd kr hW (fun x _ => by rw [hm.1, hm.2]; exact kk x)
theorem a_cX_Pi {y : MethodName} {mj : MI} {as : List Value} {o' : Option Int32} {f : Int32 → Option τ} {stk : List Value} {idx : Nat} {r ci : Nat} {CNm : String} {T : u_T} {N : Nat} (d : decode mi.2.1 pc = .ok (.invokespecial idx, 3)) (hc : CN l g y mj false (.ref r :: as) h (rPi h) o') (hst : stk = as.reverse ++ .ref r :: st) (km : KM y mj as.length) (hm : mj.2.2.2.2.2.1 = 0 ∧ mj.2.2.2.2.2.2.1 = 0) (x1 : MethodName) (owner : String) (kcr : vwCl[ci]? = some (CNm, T, N)) (h20 : ci + 1 < 20) (hg : ∀ x, o' = some x → kd h r = ci + 1) (hw : Cond.methodLink mi.1 idx x1 ∈ UW) (hw1 : Cond.sameMethod x1.cls owner x1.name x1.desc ∈ UW) (hw5 : Cond.superclass mi.1 x1.cls ∈ UW) (hw6 : x1.cls = owner ∨ Cond.superclass x1.cls owner ∈ UW) (hyx : y = ⟨owner, x1.name, x1.desc⟩) (hw2 : Cond.instanceMethod y ∈ UW) (hno : x1.name ≠ "<init>") (kr : KR mi mj k n) (hW : (st.map fun v => v.category).sum ≤ 8) (kk : ∀ x, AO l g mi al h0 (pc + 3) lc (.int x :: st) h k n rt (f x)) : AO l g mi al h0 pc lc stk h k n rt (o'.bind f) :=
  a_cX d hc hst km x1 owner kcr h20 hg hw hw1 hw5 hw6 hyx hw2 hno kr hW (fun x _ => by rw [hm.1, hm.2]; exact kk x)
theorem a_cX_Si {y : MethodName} {mj : MI} {as : List Value} {o' : Option (Int32 × AH)} {f : (Int32 × AH) → Option τ} {stk : List Value} {idx : Nat} {r ci : Nat} {CNm : String} {T : u_T} {N : Nat} (d : decode mi.2.1 pc = .ok (.invokespecial idx, 3)) (hc : CN l g y mj false (.ref r :: as) h rSi o') (hst : stk = as.reverse ++ .ref r :: st) (km : KM y mj as.length) (hm : mj.2.2.2.2.2.1 = 0 ∧ mj.2.2.2.2.2.2.1 = 0) (x1 : MethodName) (owner : String) (kcr : vwCl[ci]? = some (CNm, T, N)) (h20 : ci + 1 < 20) (hg : ∀ x, o' = some x → kd h r = ci + 1) (hw : Cond.methodLink mi.1 idx x1 ∈ UW) (hw1 : Cond.sameMethod x1.cls owner x1.name x1.desc ∈ UW) (hw5 : Cond.superclass mi.1 x1.cls ∈ UW) (hw6 : x1.cls = owner ∨ Cond.superclass x1.cls owner ∈ UW) (hyx : y = ⟨owner, x1.name, x1.desc⟩) (hw2 : Cond.instanceMethod y ∈ UW) (hno : x1.name ≠ "<init>") (kr : KR mi mj k n) (hW : (st.map fun v => v.category).sum ≤ 8) (kk : ∀ x, AO l g mi al h0 (pc + 3) lc (.int x.1 :: st) x.2 k n rt (f x)) : AO l g mi al h0 pc lc stk h k n rt (o'.bind f) :=
  a_cX d hc hst km x1 owner kcr h20 hg hw hw1 hw5 hw6 hyx hw2 hno kr hW (fun x _ => by rw [hm.1, hm.2]; exact kk x)
theorem a_cX_Sv {y : MethodName} {mj : MI} {as : List Value} {o' : Option AH} {f : AH → Option τ} {stk : List Value} {idx : Nat} {r ci : Nat} {CNm : String} {T : u_T} {N : Nat} (d : decode mi.2.1 pc = .ok (.invokespecial idx, 3)) (hc : CN l g y mj false (.ref r :: as) h rSv o') (hst : stk = as.reverse ++ .ref r :: st) (km : KM y mj as.length) (hm : mj.2.2.2.2.2.1 = 0 ∧ mj.2.2.2.2.2.2.1 = 0) (x1 : MethodName) (owner : String) (kcr : vwCl[ci]? = some (CNm, T, N)) (h20 : ci + 1 < 20) (hg : ∀ x, o' = some x → kd h r = ci + 1) (hw : Cond.methodLink mi.1 idx x1 ∈ UW) (hw1 : Cond.sameMethod x1.cls owner x1.name x1.desc ∈ UW) (hw5 : Cond.superclass mi.1 x1.cls ∈ UW) (hw6 : x1.cls = owner ∨ Cond.superclass x1.cls owner ∈ UW) (hyx : y = ⟨owner, x1.name, x1.desc⟩) (hw2 : Cond.instanceMethod y ∈ UW) (hno : x1.name ≠ "<init>") (kr : KR mi mj k n) (hW : (st.map fun v => v.category).sum ≤ 8) (kk : ∀ x, AO l g mi al h0 (pc + 3) lc (st) x k n rt (f x)) : AO l g mi al h0 pc lc stk h k n rt (o'.bind f) :=
  a_cX d hc hst km x1 owner kcr h20 hg hw hw1 hw5 hw6 hyx hw2 hno kr hW (fun x _ => by rw [hm.1, hm.2]; exact kk x)
theorem a_xS_Sr {y : MethodName} {mj : MI} {as : List Value} {o' : Option (Nat × AH)} {f : (Nat × AH) → Option τ} {stk : List Value} {idx : Nat} (d : decode mi.2.1 pc = .ok (.invokestatic idx, 3)) (rs : List Nat) (hrs : rfs lc st = rs) (hc : CN l g y mj true as h rSr o') (hst : stk = as.reverse ++ st) (km : KM y mj as.length) (hw : Cond.methodLink mi.1 idx y ∈ UW) (hw2 : Cond.static y ∈ UW) (kr : KR mi mj k n) (hW : (st.map fun v => v.category).sum ≤ 8) (kk : ∀ x, AO l g mi true h0 (pc + 3) lc (.ref x.1 :: st) x.2 (k + mj.2.2.2.2.2.1) (n + mj.2.2.2.2.2.2.1) rt (f x)) : AO l g mi true h0 pc lc stk h k n rt ((gl h rs).bind fun _ => o'.bind f) :=
  a_xS d rs hrs hc hst km hw hw2 kr hW (fun x _ => kk x)
theorem a_xV_Si {y : MethodName} {mj : MI} {as : List Value} {o' : Option (Int32 × AH)} {f : (Int32 × AH) → Option τ} {stk : List Value} {idx : Nat} {r ci : Nat} {CNm : String} {T : u_T} {N : Nat} (d : decode mi.2.1 pc = .ok (.invokevirtual idx, 3)) (rs : List Nat) (hrs : rfs lc st = rs) (hc : CN l g y mj true (.ref r :: as) h rSi o') (hst : stk = as.reverse ++ .ref r :: st) (km : KM y mj as.length) (hcl : vwCl[ci]? = some (CNm, T, N)) (h20 : ci + 1 < 20) (hy : y.cls = CNm) (hg : ∀ x, o' = some x → kd h r = ci + 1) (hw : Cond.methodLink mi.1 idx y ∈ UW) (hw2 : Cond.instanceMethod y ∈ UW) (hw3 : Cond.selects CNm y y ∈ UW) (kr : KR mi mj k n) (hW : (st.map fun v => v.category).sum ≤ 8) (kk : ∀ x, AO l g mi true h0 (pc + 3) lc (.int x.1 :: st) x.2 (k + mj.2.2.2.2.2.1) (n + mj.2.2.2.2.2.2.1) rt (f x)) : AO l g mi true h0 pc lc stk h k n rt ((gl h rs).bind fun _ => o'.bind f) :=
  a_xV d rs hrs hc hst km hcl h20 hy hg hw hw2 hw3 kr hW (fun x _ => kk x)
theorem a_xV_Sr {y : MethodName} {mj : MI} {as : List Value} {o' : Option (Nat × AH)} {f : (Nat × AH) → Option τ} {stk : List Value} {idx : Nat} {r ci : Nat} {CNm : String} {T : u_T} {N : Nat} (d : decode mi.2.1 pc = .ok (.invokevirtual idx, 3)) (rs : List Nat) (hrs : rfs lc st = rs) (hc : CN l g y mj true (.ref r :: as) h rSr o') (hst : stk = as.reverse ++ .ref r :: st) (km : KM y mj as.length) (hcl : vwCl[ci]? = some (CNm, T, N)) (h20 : ci + 1 < 20) (hy : y.cls = CNm) (hg : ∀ x, o' = some x → kd h r = ci + 1) (hw : Cond.methodLink mi.1 idx y ∈ UW) (hw2 : Cond.instanceMethod y ∈ UW) (hw3 : Cond.selects CNm y y ∈ UW) (kr : KR mi mj k n) (hW : (st.map fun v => v.category).sum ≤ 8) (kk : ∀ x, AO l g mi true h0 (pc + 3) lc (.ref x.1 :: st) x.2 (k + mj.2.2.2.2.2.1) (n + mj.2.2.2.2.2.2.1) rt (f x)) : AO l g mi true h0 pc lc stk h k n rt ((gl h rs).bind fun _ => o'.bind f) :=
  a_xV d rs hrs hc hst km hcl h20 hy hg hw hw2 hw3 kr hW (fun x _ => kk x)
theorem a_xV_Sn {y : MethodName} {mj : MI} {as : List Value} {o' : Option (Option Nat × AH)} {f : (Option Nat × AH) → Option τ} {stk : List Value} {idx : Nat} {r ci : Nat} {CNm : String} {T : u_T} {N : Nat} (d : decode mi.2.1 pc = .ok (.invokevirtual idx, 3)) (rs : List Nat) (hrs : rfs lc st = rs) (hc : CN l g y mj true (.ref r :: as) h rSn o') (hst : stk = as.reverse ++ .ref r :: st) (km : KM y mj as.length) (hcl : vwCl[ci]? = some (CNm, T, N)) (h20 : ci + 1 < 20) (hy : y.cls = CNm) (hg : ∀ x, o' = some x → kd h r = ci + 1) (hw : Cond.methodLink mi.1 idx y ∈ UW) (hw2 : Cond.instanceMethod y ∈ UW) (hw3 : Cond.selects CNm y y ∈ UW) (kr : KR mi mj k n) (hW : (st.map fun v => v.category).sum ≤ 8) (kk : ∀ x, AO l g mi true h0 (pc + 3) lc (va_rf x.1 :: st) x.2 (k + mj.2.2.2.2.2.1) (n + mj.2.2.2.2.2.2.1) rt (f x)) : AO l g mi true h0 pc lc stk h k n rt ((gl h rs).bind fun _ => o'.bind f) :=
  a_xV d rs hrs hc hst km hcl h20 hy hg hw hw2 hw3 kr hW (fun x _ => kk x)
theorem a_xV_Sv {y : MethodName} {mj : MI} {as : List Value} {o' : Option AH} {f : AH → Option τ} {stk : List Value} {idx : Nat} {r ci : Nat} {CNm : String} {T : u_T} {N : Nat} (d : decode mi.2.1 pc = .ok (.invokevirtual idx, 3)) (rs : List Nat) (hrs : rfs lc st = rs) (hc : CN l g y mj true (.ref r :: as) h rSv o') (hst : stk = as.reverse ++ .ref r :: st) (km : KM y mj as.length) (hcl : vwCl[ci]? = some (CNm, T, N)) (h20 : ci + 1 < 20) (hy : y.cls = CNm) (hg : ∀ x, o' = some x → kd h r = ci + 1) (hw : Cond.methodLink mi.1 idx y ∈ UW) (hw2 : Cond.instanceMethod y ∈ UW) (hw3 : Cond.selects CNm y y ∈ UW) (kr : KR mi mj k n) (hW : (st.map fun v => v.category).sum ≤ 8) (kk : ∀ x, AO l g mi true h0 (pc + 3) lc (st) x (k + mj.2.2.2.2.2.1) (n + mj.2.2.2.2.2.2.1) rt (f x)) : AO l g mi true h0 pc lc stk h k n rt ((gl h rs).bind fun _ => o'.bind f) :=
  a_xV d rs hrs hc hst km hcl h20 hy hg hw hw2 hw3 kr hW (fun x _ => kk x)
theorem a_xI_Sv {y : MethodName} {mj : MI} {as : List Value} {o' : Option AH} {f : AH → Option τ} {stk : List Value} {idx : Nat} {r : Nat} (d : decode mi.2.1 pc = .ok (.invokespecial idx, 3)) (rs : List Nat) (hrs : rfs lc st = rs) (hc : CN l g y mj true (.ref r :: as) h rSv o') (hst : stk = as.reverse ++ .ref r :: st) (km : KM y mj as.length) (hret : mj.2.2.2.1 = none) (hy : y.name = "<init>") (hw : Cond.methodLink mi.1 idx y ∈ UW) (hw2 : Cond.instanceMethod y ∈ UW) (kr : KR mi mj k n) (hW : (st.map fun v => v.category).sum ≤ 8) (kk : ∀ x, AO l g mi true h0 (pc + 3) lc (st) x (k + mj.2.2.2.2.2.1) (n + mj.2.2.2.2.2.2.1) rt (f x)) : AO l g mi true h0 pc lc stk h k n rt ((gl h rs).bind fun _ => o'.bind f) :=
  a_xI d rs hrs hc hst km hret hy hw hw2 kr hW (fun x _ => kk x)
theorem a_xIN_Sv {y : MethodName} {mj : MI} {as : List Value} {o' : Option AH} {f : AH → Option τ} {stk : List Value} {idx : Nat} {r : Nat} {host : String} (d : decode mi.2.1 pc = .ok (.invokespecial idx, 3)) (rs : List Nat) (hrs : rfs lc st = rs) (hc : CN l g y mj true (.ref r :: as) h rSv o') (hst : stk = as.reverse ++ .ref r :: st) (km : KM y mj as.length) (hret : mj.2.2.2.1 = none) (hy : y.name = "<init>") (hw : (mi.1, idx, y, host) ∈ NML) (hw2 : Cond.instanceMethod y ∈ UW) (kr : KR mi mj k n) (hW : (st.map fun v => v.category).sum ≤ 8) (kk : ∀ x, AO l g mi true h0 (pc + 3) lc (st) x (k + mj.2.2.2.2.2.1) (n + mj.2.2.2.2.2.2.1) rt (f x)) : AO l g mi true h0 pc lc stk h k n rt ((gl h rs).bind fun _ => o'.bind f) :=
  a_xIN d rs hrs hc hst km hret hy hw hw2 kr hW (fun x _ => kk x)
end AR5
