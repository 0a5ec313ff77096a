theorem cu_of {R : Room} {s : State} {args : Array Value} {own C owner : String} {idx na : Nat} {x y : MethodName} {mj : MI} (hts : ∀ w ∈ UW, w.before args s = true) (km1 : Cond.code y mj.2.1 mj.2.2.1 mj.2.2.2.1 ∈ UW) (km2 : Cond.initialized y.cls ∈ UW) (km4 : mj.2.2.2.2.1.cells = mj.2.2.2.2.2.1) (km5 : mj.2.2.2.2.1.slots = mj.2.2.2.2.2.2.1)
    (hw : Cond.methodLink own idx x ∈ UW) (hw1 : Cond.sameMethod x.cls owner x.name x.desc ∈ UW) (hw2 : Cond.instanceMethod y ∈ UW) (hw3 : Cond.selects C x y ∈ UW) (hw4 : y = ⟨owner, x.name, x.desc⟩ ∨ (Cond.instanceMethod ⟨owner, x.name, x.desc⟩ ∈ UW ∧ ∃ b0 m0 r0, Cond.code ⟨owner, x.name, x.desc⟩ b0 m0 r0 ∈ UW))
    (hd : owner ≠ "java/lang/invoke/MethodHandle" ∧ owner ≠ "java/lang/invoke/VarHandle" ∧ (parseMethodDescriptor x.desc).map (fun d => d.parameters.length) = some na) (hR : mj.2.2.2.2.1.frames + 1 ≤ R.frames ∧ 8 + (mj.2.2.1 + 11) + mj.2.2.2.2.1.locals ≤ R.locals) :
    va_CU R s args own C owner idx x y mj.2.1 mj.2.2.1 mj.2.2.2.1 (Cond.code y mj.2.1 mj.2.2.1 mj.2.2.2.1 :: UW) mj.2.2.2.2.1 mj.2.2.2.2.2.1 mj.2.2.2.2.2.2.1 na := by
  have hG : GoodIn UW (Cond.code y mj.2.1 mj.2.2.1 mj.2.2.2.1 :: UW) := code_good km1
  have one : ∀ w ∈ UW, w ∈ UW ∧ ((w.onTables && w.keeps) = true ∨ ∃ ty, w = .arrayClass ty) := fun w hw => ⟨hw, good_of_word (List.mem_filter.mp hw).2⟩
  rcases hw4 with hyx | ⟨h4, b0, m0, r0, h5⟩
  · refine va_cwU na hts ?_ rfl km4 km5 hyx hd hR
    intro w h
    unfold va_wsU at h
    simp only [List.cons_append, List.nil_append, List.mem_cons] at h
    rcases h with rfl | rfl | rfl | rfl | rfl | h
    · exact one _ hw
    · exact one _ hw1
    · exact one _ hw3
    · exact one _ hw2
    · exact one _ km2
    · exact hG w (List.mem_cons.mpr h)
  · refine va_cwO na hts ?_ rfl km4 km5 h5 hd hR
    intro w h
    unfold va_wsO at h
    simp only [List.cons_append, List.nil_append, List.mem_cons] at h
    rcases h with rfl | rfl | rfl | rfl | rfl | rfl | h
    · exact one _ hw
    · exact one _ hw1
    · exact one _ h4
    · exact one _ hw3
    · exact one _ hw2
    · exact one _ km2
    · exact hG w (List.mem_cons.mpr h)
/-- super.m(..), where m may be inherited by the superclass -/
theorem va_runSX {p : Program} {l : Launch} {e : Env} {R : Room} {s : State} {m : MethodId} {args : Array Value} {below : List Frame} {meth : Method} {c : Code} {H : Heap} {locs : List Loc} {cells slots : Nat} {x y : MethodName} {bytes cc : ByteArray} {maxL nL mc ms n index : Nat} {ret : Option FieldType} {ws : List Cond} {rm : Room} {Pc : Array Value → State → Prop} {Qc : Array Value → State → Outcome → State → Prop} {free : Addr → Prop} {Ts : List Cond} {own owner C : String} {cC : ClassId} {b : Addr} {As rest : List Value} {g : JFrame}
    (hat : ClassAt s C cC) (S : CallFix p m c cc nL s args Ts own) (hM : Met l y ws rm Pc Qc mc ms free) (hrc : rm.cells = mc) (hrs : rm.slots = ms) (hfr : rm.frames + 1 ≤ R.frames) (hlo : 8 + (maxL + 11) + rm.locals ≤ R.locals) (hws : ∀ w ∈ ws, ∀ (a' : Array Value) (U : State), s.WarmedH U.vm → w.before a' U = true) (hcw : Cond.code y bytes maxL ret ∈ ws)
    (hl : (Cond.methodLink own index x).before args s = true) (hsm : (Cond.sameMethod x.cls owner x.name x.desc).before args s = true) (hsup : (Cond.superclass own x.cls).before args s = true) (hsup2 : x.cls = owner ∨ (Cond.superclass x.cls owner).before args s = true) (hyx : y = ⟨owner, x.name, x.desc⟩)
    (hinst : (Cond.instanceMethod y).before args s = true) (hini : (Cond.initialized y.cls).before args s = true) (hcode : (Cond.code y bytes maxL ret).before args s = true) (hno : x.name ≠ "<init>") (hlen : ∀ sig, parseMethodDescriptor y.desc = some sig → n = sig.parameters.length) (hp : PreV s H C b Pc As)
    (hg : g.method = m) (hn : As.length = n) (hsize : g.locals.size = nL) (hstack : g.stack = As.reverse ++ .ref b :: rest) (hW : 2 * g.monitorRoom + (rest.map fun v => v.category).sum ≤ 8) (hdg : decode cc g.pc = .ok (.invokespecial index, 3)) (hf : cells + mc ≤ R.cells ∧ slots + ms ≤ R.slots) :
    va_Run p l e R s m args below meth c H locs cells slots mc ms g rest (Qc (Value.ref b :: As).toArray) (free) := by
  have hK : Back l R p e below s args y 3 8 (PreOf R mc ms Pc) (PostOf Qc mc ms free) := back_of (bytes := bytes) (maxL := maxL) (ret := ret) hM hp.1 hrc hrs hfr hlo hws hcw (fun a' U hW => word_at hW (Or.inl (by first | rfl | simp [Cond.onTables, Cond.keeps, Cond.steady])) hini)
  obtain ⟨hx, hb, hml, ho, -⟩ := S
  obtain ⟨-, ⟨cellB, hcB, hoB, hclB⟩, hPc⟩ := hp
  obtain ⟨hfc, kB, hkB, -⟩ := hat
  intro T hT X
  obtain ⟨mk, methM, hnamed, hmethM, hstM, habM⟩ := Cond.instanceMethod_spec hinst
  obtain ⟨methM', cM, hmethM', -, -, -, -, -, -, hsigM⟩ := Cond.code_spec hnamed hcode
  cases hmethM.symm.trans hmethM'
  obtain ⟨ps, dk, kp, hps, hdk, hkp, hsuper, -, -, hnid⟩ := Cond.superclass_spec ho hsup
  have hnm : s.methodNamed? ⟨owner, x.name, x.desc⟩ = some mk := by rw [← hyx]; exact hnamed
  have hmc : s.vm.findClass owner = some mk.cls := by have := findClass_of_methodNamed hnamed; rw [hyx] at this; exact this
  have hsub : s.vm.isSubclass ps mk.cls = true := by
    rcases hsup2 with e0 | h2
    · rw [e0] at hps
      have hpm : ps = mk.cls := Option.some.inj (hps.symm.trans hmc)
      rw [hpm]; simp [Vm.isSubclass, Vm.isSubclassAux]
    · obtain ⟨pq, dq, kq, hpq, hdq, hkq, hsq, -, -, -⟩ := Cond.superclass_spec hps h2
      have hpm : pq = mk.cls := Option.some.inj (hpq.symm.trans hmc)
      subst hpm
      have hne : s.vm.classes.size ≠ 0 := fun e9 => by have := (Array.getElem?_eq_some_iff.mp hdq).1; omega
      obtain ⟨z, hz⟩ := Nat.exists_eq_succ_of_ne_zero hne
      simp [Vm.isSubclass, hz, Vm.isSubclassAux, hdq, hsq]
  obtain ⟨vm₁, X₁, hstep₁⟩ := X.invokespecialUp hx ho hl hsm hnm hmethM hstM habM hno hdk hnid hps hsuper hsub (a := b) (cell := cellB) (by rw [hT]; exact hcB)
    (fun z h => by rw [h] at hoB; cases hoB) (show s.vm.classes[cellB.cls]? = some kB by cases hclB.symm.trans hfc; exact hkB) (g := g) hg (argsL := As) (rest := rest) (hn.trans (hlen _ hsigM)) hstack (by rw [hb]; exact hdg)
  obtain ⟨v, ⟨U', l2, c2, s2⟩, X', ⟨g', mk', t, L, e1, e2, hq, h1, hL, h2, h3⟩, hsteps⟩ := hK m meth c ⟨T.setVm vm₁, locs, cells, slots⟩ { g with stack := rest } (.invokespecial index) mk (Value.ref b :: As).toArray X₁ hg (hsize.trans hml.symm) (by rw [hb]; exact hdg) hW (X₁.named hnamed) ⟨hf.1, hf.2, hPc (T.setVm vm₁) hT X₁.warmed⟩
  dsimp only [Pt.U, Pt.locs, Pt.cells, Pt.slots] at X' e1 e2 h1 h2 h3 hsteps
  subst h1; subst h2; subst h3
  exact ⟨v, (T.setVm vm₁).calling g' mk' (Value.ref b :: As).toArray, t, U', L, hT, X', hL, e1, e2, hq, fun target h => hstep₁ _ (by rw [doInvoke_state]; exact hsteps.trans h)⟩
section AR4
variable {τ : Type} {l : Launch} {g : GG} {mi : MI} {al : Bool} {h0 h : AH} {pc k n : Nat} {lc : List (Nat × Value)} {st : List Value} {rt : τ → Option Value × AH} {o : Option τ}
theorem a_xS {σ : Type} {y : MethodName} {mj : MI} {as : List Value} {rt' : σ → Option Value × AH} {o' : Option σ} {f : σ → Option τ} {stk : List Value} {idx : Nat} (d : decode mi.2.1 pc = .ok (.invokestatic idx, 3)) (rs : List Nat) (hrs : rfs lc st = rs) (hc : CN l g y mj true as h rt' o') (hst : stk = as.reverse ++ st) (km : KM y mj as.length) (hw : Cond.methodLink mi.1 idx y ∈ UW) (hw2 : Cond.static y ∈ UW) (kr : KR mi mj k n) (hW : (st.map fun v => v.category).sum ≤ 8) (kk : ∀ x, o' = some x → AO l g mi true h0 (pc + 3) lc ((rt' x).1.toList ++ st) (rt' x).2 (k + mj.2.2.2.2.2.1) (n + mj.2.2.2.2.2.2.1) rt (f x)) : AO l g mi true h0 pc lc stk h k n rt ((gl h rs).bind fun _ => o'.bind f) := by
  intro out ho p e s m args below meth c ρ0 ρ H locs ls C hag hV hS hl
  obtain ⟨u, hgl, ho⟩ := Option.bind_eq_some_iff.mp ho
  obtain ⟨x, hx, hf⟩ := Option.bind_eq_some_iff.mp ho
  have hlive := gl_live hgl
  subst hrs
  obtain ⟨km1, km2, km3, km4, km5⟩ := km
  have hts := C.2.2.2.2.1
  have hM := hc x hx ρ
  have hWr : ((st.map (mv ρ)).map fun v => v.category).sum ≤ 8 := by
    rw [List.map_map]
    have e0 : ((fun v : Value => v.category) ∘ mv ρ) = fun v => v.category := funext fun v => mv_cat ρ v
    rw [e0]
    exact hW
  subst hst
  rw [show (as.reverse ++ st).map (mv ρ) = (as.map (mv ρ)).reverse ++ st.map (mv ρ) by simp [List.map_append, List.map_reverse, mv]]
  refine run_q (ρ := ρ) (h := h) (q := rt' x) (va_runS (As := as.map (mv ρ)) (rest := st.map (mv ρ)) ⟨C.1, C.2.1, C.2.2.1, C.2.2.2.1, hts⟩ hM ⟨(callB_of as.length hts (code_good km1) rfl km4 km5 (hts _ km2) (hts _ hw) km3 kr.1), hts _ hw2⟩ ⟨PreB.blind, PreB.at hV hS C.2.2.2.2.2.2.2.1⟩ rfl (by simp) hl.1 rfl (lv_room hWr) d kr.2) hS (fun ρ' H1 locs1 hag1 hV1 hS1 => ?_)
  have hag2 : AG true ρ0 h0 ρ' (rt' x).2 := fun j hj => ⟨((hag1 j (hag j hj).2).1).trans (hag j hj).1, (hag1 j (hag j hj).2).2⟩
  have fin := kk x hx out hf p e s m args below meth c ρ0 ρ' H1 locs1 ls C hag2 hV1 hS1 (by rw [lm_eq (ρ := ρ) (fun z hz a ha => (hag1 a (hlive a (rfs_lc hz ha))).1)]; exact hl)
  rw [show ((rt' x).1.map (mv ρ')).toList ++ st.map (mv ρ) = ((rt' x).1.toList ++ st).map (mv ρ') by
    rw [List.map_append, st_eq (ρ := ρ) (fun a ha => (hag1 a (hlive a (rfs_st ha))).1)]
    cases (rt' x).1 <;> rfl]
  exact fin
theorem a_xV {σ : Type} {y : MethodName} {mj : MI} {as : List Value} {rt' : σ → Option Value × AH} {o' : Option σ} {f : σ → Option τ} {stk : List Value} {idx : Nat} {r ci : Nat} {CNm : String} {T : u_T} {N : Nat} (d : decode mi.2.1 pc = .ok (.invokevirtual idx, 3)) (rs : List Nat) (hrs : rfs lc st = rs) (hc : CN l g y mj true (.ref r :: as) h rt' o') (hst : stk = as.reverse ++ .ref r :: st) (km : KM y mj as.length) (hcl : vwCl[ci]? = some (CNm, T, N)) (h20 : ci + 1 < 20) (hy : y.cls = CNm) (hg : ∀ x, o' = some x → kd h r = ci + 1) (hw : Cond.methodLink mi.1 idx y ∈ UW) (hw2 : Cond.instanceMethod y ∈ UW) (hw3 : Cond.selects CNm y y ∈ UW) (kr : KR mi mj k n) (hW : (st.map fun v => v.category).sum ≤ 8) (kk : ∀ x, o' = some x → AO l g mi true h0 (pc + 3) lc ((rt' x).1.toList ++ st) (rt' x).2 (k + mj.2.2.2.2.2.1) (n + mj.2.2.2.2.2.2.1) rt (f x)) : AO l g mi true h0 pc lc stk h k n rt ((gl h rs).bind fun _ => o'.bind f) := by
  intro out ho p e s m args below meth c ρ0 ρ H locs ls C hag hV hS hl
  obtain ⟨u, hgl, ho⟩ := Option.bind_eq_some_iff.mp ho
  obtain ⟨x, hx, hf⟩ := Option.bind_eq_some_iff.mp ho
  have hlive := gl_live hgl
  subst hrs
  obtain ⟨km1, km2, km3, km4, km5⟩ := km
  have hts := C.2.2.2.2.1
  have hM := hc x hx ρ
  have hWr : ((st.map (mv ρ)).map fun v => v.category).sum ≤ 8 := by
    rw [List.map_map]
    have e0 : ((fun v : Value => v.category) ∘ mv ρ) = fun v => v.category := funext fun v => mv_cat ρ v
    rw [e0]
    exact hW
  subst hst
  rw [show (as.reverse ++ .ref r :: st).map (mv ρ) = (as.map (mv ρ)).reverse ++ .ref (ρ r) :: st.map (mv ρ) by simp [List.map_append, List.map_reverse, mv]]
  refine run_q (ρ := ρ) (h := h) (q := rt' x) (va_runV (C := CNm) (b := ρ r) (As := as.map (mv ρ)) (rest := st.map (mv ρ)) ⟨C.1, C.2.1, C.2.2.1, C.2.2.2.1, hts⟩ hM ⟨(callB_of as.length hts (code_good km1) rfl km4 km5 (hts _ km2) (hts _ hw) km3 kr.1), hts _ hw2, hts _ hw3⟩ ⟨PreB.blind, recv_at hV C.2.2.2.2.2.2.2.1 hcl h20 (hg x hx), PreB.at (as := .ref (ρ r) :: as.map (mv ρ)) hV hS C.2.2.2.2.2.2.2.1⟩ rfl (by simp) hl.1 rfl (lv_room hWr) d kr.2) hS (fun ρ' H1 locs1 hag1 hV1 hS1 => ?_)
  have hag2 : AG true ρ0 h0 ρ' (rt' x).2 := fun j hj => ⟨((hag1 j (hag j hj).2).1).trans (hag j hj).1, (hag1 j (hag j hj).2).2⟩
  have fin := kk x hx out hf p e s m args below meth c ρ0 ρ' H1 locs1 ls C hag2 hV1 hS1 (by rw [lm_eq (ρ := ρ) (fun z hz a ha => (hag1 a (hlive a (rfs_lc hz ha))).1)]; exact hl)
  rw [show ((rt' x).1.map (mv ρ')).toList ++ st.map (mv ρ) = ((rt' x).1.toList ++ st).map (mv ρ') by
    rw [List.map_append, st_eq (ρ := ρ) (fun a ha => (hag1 a (hlive a (rfs_st ha))).1)]
    cases (rt' x).1 <;> rfl]
  exact fin
theorem a_xI {σ : Type} {y : MethodName} {mj : MI} {as : List Value} {rt' : σ → Option Value × AH} {o' : Option σ} {f : σ → Option τ} {stk : List Value} {idx : Nat} {r : Nat} (d : decode mi.2.1 pc = .ok (.invokespecial idx, 3)) (rs : List Nat) (hrs : rfs lc st = rs) (hc : CN l g y mj true (.ref r :: as) h rt' o') (hst : stk = as.reverse ++ .ref r :: st) (km : KM y mj as.length) (hret : mj.2.2.2.1 = none) (hy : y.name = "<init>") (hw : Cond.methodLink mi.1 idx y ∈ UW) (hw2 : Cond.instanceMethod y ∈ UW) (kr : KR mi mj k n) (hW : (st.map fun v => v.category).sum ≤ 8) (kk : ∀ x, o' = some x → AO l g mi true h0 (pc + 3) lc ((rt' x).1.toList ++ st) (rt' x).2 (k + mj.2.2.2.2.2.1) (n + mj.2.2.2.2.2.2.1) rt (f x)) : AO l g mi true h0 pc lc stk h k n rt ((gl h rs).bind fun _ => o'.bind f) := by
  intro out ho p e s m args below meth c ρ0 ρ H locs ls C hag hV hS hl
  obtain ⟨u, hgl, ho⟩ := Option.bind_eq_some_iff.mp ho
  obtain ⟨x, hx, hf⟩ := Option.bind_eq_some_iff.mp ho
  have hlive := gl_live hgl
  subst hrs
  obtain ⟨km1, km2, km3, km4, km5⟩ := km
  have hts := C.2.2.2.2.1
  have hM := hc x hx ρ
  have hWr : ((st.map (mv ρ)).map fun v => v.category).sum ≤ 8 := by
    rw [List.map_map]
    have e0 : ((fun v : Value => v.category) ∘ mv ρ) = fun v => v.category := funext fun v => mv_cat ρ v
    rw [e0]
    exact hW
  subst hst
  rw [show (as.reverse ++ .ref r :: st).map (mv ρ) = (as.map (mv ρ)).reverse ++ .ref (ρ r) :: st.map (mv ρ) by simp [List.map_append, List.map_reverse, mv]]
  refine run_q (ρ := ρ) (h := h) (q := rt' x) (va_runI (b := ρ r) (As := as.map (mv ρ)) (rest := st.map (mv ρ)) ⟨C.1, C.2.1, C.2.2.1, C.2.2.2.1, hts⟩ hM ⟨by rw [hret] at km1 ⊢; exact callB_of as.length hts (by rw [← hret] at km1 ⊢; exact code_good km1) rfl km4 km5 (hts _ km2) (hts _ hw) km3 kr.1, hy, hts _ hw2⟩ ⟨PreB.blind, PreB.at (as := .ref (ρ r) :: as.map (mv ρ)) hV hS C.2.2.2.2.2.2.2.1⟩ rfl (by simp) hl.1 rfl (lv_room hWr) d kr.2) hS (fun ρ' H1 locs1 hag1 hV1 hS1 => ?_)
  have hag2 : AG true ρ0 h0 ρ' (rt' x).2 := fun j hj => ⟨((hag1 j (hag j hj).2).1).trans (hag j hj).1, (hag1 j (hag j hj).2).2⟩
  have fin := kk x hx out hf p e s m args below meth c ρ0 ρ' H1 locs1 ls C hag2 hV1 hS1 (by rw [lm_eq (ρ := ρ) (fun z hz a ha => (hag1 a (hlive a (rfs_lc hz ha))).1)]; exact hl)
  rw [show ((rt' x).1.map (mv ρ')).toList ++ st.map (mv ρ) = ((rt' x).1.toList ++ st).map (mv ρ') by
    rw [List.map_append, st_eq (ρ := ρ) (fun a ha => (hag1 a (hlive a (rfs_st ha))).1)]
    cases (rt' x).1 <;> rfl]
  exact fin
theorem a_xIN {σ : Type} {y : MethodName} {mj : MI} {as : List Value} {rt' : σ → Option Value × AH} {o' : Option σ} {f : σ → Option τ} {stk : List Value} {idx : Nat} {r : Nat} {host : String} (d : decode mi.2.1 pc = .ok (.invokespecial idx, 3)) (rs : List Nat) (hrs : rfs lc st = rs) (hc : CN l g y mj true (.ref r :: as) h rt' o') (hst : stk = as.reverse ++ .ref r :: st) (km : KM y mj as.length) (hret : mj.2.2.2.1 = none) (hy : y.name = "<init>") (hw : (mi.1, idx, y, host) ∈ NML) (hw2 : Cond.instanceMethod y ∈ UW) (kr : KR mi mj k n) (hW : (st.map fun v => v.category).sum ≤ 8) (kk : ∀ x, o' = some x → AO l g mi true h0 (pc + 3) lc ((rt' x).1.toList ++ st) (rt' x).2 (k + mj.2.2.2.2.2.1) (n + mj.2.2.2.2.2.2.1) rt (f x)) : AO l g mi true h0 pc lc stk h k n rt ((gl h rs).bind fun _ => o'.bind f) := by
  intro out ho p e s m args below meth c ρ0 ρ H locs ls C hag hV hS hl
  obtain ⟨u, hgl, ho⟩ := Option.bind_eq_some_iff.mp ho
  obtain ⟨x, hx, hf⟩ := Option.bind_eq_some_iff.mp ho
  have hlive := gl_live hgl
  subst hrs
  obtain ⟨km1, km2, km3, km4, km5⟩ := km
  have hts := C.2.2.2.2.1
  have hM := hc x hx ρ
  have hWr : ((st.map (mv ρ)).map fun v => v.category).sum ≤ 8 := by
    rw [List.map_map]
    have e0 : ((fun v : Value => v.category) ∘ mv ρ) = fun v => v.category := funext fun v => mv_cat ρ v
    rw [e0]
    exact hW
  subst hst
  rw [show (as.reverse ++ .ref r :: st).map (mv ρ) = (as.map (mv ρ)).reverse ++ .ref (ρ r) :: st.map (mv ρ) by simp [List.map_append, List.map_reverse, mv]]
  refine run_q (ρ := ρ) (h := h) (q := rt' x) (va_runIN (b := ρ r) (As := as.map (mv ρ)) (rest := st.map (mv ρ)) ⟨C.1, C.2.1, C.2.2.1, C.2.2.2.1, hts⟩ hM ⟨by rw [hret] at km1 ⊢; exact va_cnB as.length hts (by rw [← hret] at km1 ⊢; exact code_good km1) rfl km4 km5 (C.2.2.2.2.2.2.2.1.2.2.1.2.1 _ hw) (hts _ km2) km3 kr.1, hy, hts _ hw2⟩ ⟨PreB.blind, PreB.at (as := .ref (ρ r) :: as.map (mv ρ)) hV hS C.2.2.2.2.2.2.2.1⟩ rfl (by simp) hl.1 rfl (lv_room hWr) d kr.2) hS (fun ρ' H1 locs1 hag1 hV1 hS1 => ?_)
  have hag2 : AG true ρ0 h0 ρ' (rt' x).2 := fun j hj => ⟨((hag1 j (hag j hj).2).1).trans (hag j hj).1, (hag1 j (hag j hj).2).2⟩
  have fin := kk x hx out hf p e s m args below meth c ρ0 ρ' H1 locs1 ls C hag2 hV1 hS1 (by rw [lm_eq (ρ := ρ) (fun z hz a ha => (hag1 a (hlive a (rfs_lc hz ha))).1)]; exact hl)
  rw [show ((rt' x).1.map (mv ρ')).toList ++ st.map (mv ρ) = ((rt' x).1.toList ++ st).map (mv ρ') by
    rw [List.map_append, st_eq (ρ := ρ) (fun a ha => (hag1 a (hlive a (rfs_st ha))).1)]
    cases (rt' x).1 <;> rfl]
  exact fin
theorem a_cIN {σ : Type} {y : MethodName} {mj : MI} {as : List Value} {rt' : σ → Option Value × AH} {o' : Option σ} {f : σ → Option τ} {stk : List Value} {idx : Nat} {r : Nat} {host : String} (d : decode mi.2.1 pc = .ok (.invokespecial idx, 3)) (hc : CN l g y mj false (.ref r :: as) h rt' o') (hst : stk = as.reverse ++ .ref r :: st) (km : KM y mj as.length) (hret : mj.2.2.2.1 = none) (hy : y.name = "<init>") (hw : (mi.1, idx, y, host) ∈ NML) (hw2 : Cond.instanceMethod y ∈ UW) (kr : KR mi mj k n) (hW : (st.map fun v => v.category).sum ≤ 8) (kk : ∀ x, o' = some x → AO l g mi al h0 (pc + 3) lc ((rt' x).1.toList ++ st) (rt' x).2 (k + mj.2.2.2.2.2.1) (n + mj.2.2.2.2.2.2.1) rt (f x)) : AO l g mi al h0 pc lc stk h k n rt (o'.bind f) := by
  intro out ho p e s m args below meth c ρ0 ρ H locs ls C hag hV hS hl
  obtain ⟨x, hx, hf⟩ := Option.bind_eq_some_iff.mp ho
  obtain ⟨km1, km2, km3, km4, km5⟩ := km
  have hts := C.2.2.2.2.1
  have hM := hc x hx ρ
  have hWr : ((st.map (mv ρ)).map fun v => v.category).sum ≤ 8 := by
    rw [List.map_map]
    have e0 : ((fun v : Value => v.category) ∘ mv ρ) = fun v => v.category := funext fun v => mv_cat ρ v
    rw [e0]
    exact hW
  subst hst
  rw [show (as.reverse ++ .ref r :: st).map (mv ρ) = (as.map (mv ρ)).reverse ++ .ref (ρ r) :: st.map (mv ρ) by simp [List.map_append, List.map_reverse, mv]]
  refine run_q (ρ := ρ) (h := h) (q := rt' x) (va_runIN (b := ρ r) (As := as.map (mv ρ)) (rest := st.map (mv ρ)) ⟨C.1, C.2.1, C.2.2.1, C.2.2.2.1, hts⟩ hM ⟨by rw [hret] at km1 ⊢; exact va_cnB as.length hts (by rw [← hret] at km1 ⊢; exact code_good km1) rfl km4 km5 (C.2.2.2.2.2.2.2.1.2.2.1.2.1 _ hw) (hts _ km2) km3 kr.1, hy, hts _ hw2⟩ ⟨PreB.blind, PreB.at (as := .ref (ρ r) :: as.map (mv ρ)) hV hS C.2.2.2.2.2.2.2.1⟩ rfl (by simp) hl.1 rfl (lv_room hWr) d kr.2) hS (fun ρ' H1 locs1 hag1 hV1 hS1 => ?_)
  have er : ρ' = ρ := hag1.1
  subst er
  have fin := kk x hx out hf p e s m args below meth c ρ0 ρ' H1 locs1 ls C (hag.put hag1.2) hV1 hS1 hl
  rw [show ((rt' x).1.map (mv ρ')).toList ++ st.map (mv ρ') = ((rt' x).1.toList ++ st).map (mv ρ') by cases (rt' x).1 <;> rfl]
  exact fin
theorem a_cU {σ : Type} {y : MethodName} {mj : MI} {as : List Value} {rt' : σ → Option Value × AH} {o' : Option σ} {f : σ → Option τ} {stk : List Value} {idx : Nat} {r ci : Nat} {CNm : String} {T : u_T} {N : Nat} (d : decode mi.2.1 pc = .ok (.invokevirtual idx, 3)) (hc : CN l g y mj false (.ref r :: as) h rt' o') (hst : stk = as.reverse ++ .ref r :: st) (km : KM y mj as.length) (x : MethodName) (owner : String) (hcl : vwCl[ci]? = some (CNm, T, N)) (h20 : ci + 1 < 20) (hg : ∀ x, o' = some x → kd h r = ci + 1) (hw : Cond.methodLink mi.1 idx x ∈ UW) (hw1 : Cond.sameMethod x.cls owner x.name x.desc ∈ UW) (hw2 : Cond.instanceMethod y ∈ UW) (hw3 : Cond.selects CNm x y ∈ UW) (hw4 : y = ⟨owner, x.name, x.desc⟩ ∨ (Cond.instanceMethod ⟨owner, x.name, x.desc⟩ ∈ UW ∧ ∃ b0 m0 r0, Cond.code ⟨owner, x.name, x.desc⟩ b0 m0 r0 ∈ UW)) (hd : owner ≠ "java/lang/invoke/MethodHandle" ∧ owner ≠ "java/lang/invoke/VarHandle" ∧ (parseMethodDescriptor x.desc).map (fun d => d.parameters.length) = some as.length) (kr : KR mi mj k n) (hW : (st.map fun v => v.category).sum ≤ 8) (kk : ∀ x9, o' = some x9 → AO l g mi al h0 (pc + 3) lc ((rt' x9).1.toList ++ st) (rt' x9).2 (k + mj.2.2.2.2.2.1) (n + mj.2.2.2.2.2.2.1) rt (f x9)) : AO l g mi al h0 pc lc stk h k n rt (o'.bind f) := by
  intro out ho p e s m args below meth c ρ0 ρ H locs ls C hag hV hS hl
  obtain ⟨x9, hx, hf⟩ := Option.bind_eq_some_iff.mp ho
  obtain ⟨km1, km2, km3, km4, km5⟩ := km
  have hts := C.2.2.2.2.1
  have hM := hc x9 hx ρ
  have hWr : ((st.map (mv ρ)).map fun v => v.category).sum ≤ 8 := by
    rw [List.map_map]
    have e0 : ((fun v : Value => v.category) ∘ mv ρ) = fun v => v.category := funext fun v => mv_cat ρ v
    rw [e0]
    exact hW
  subst hst
  rw [show (as.reverse ++ .ref r :: st).map (mv ρ) = (as.map (mv ρ)).reverse ++ .ref (ρ r) :: st.map (mv ρ) by simp [List.map_append, List.map_reverse, mv]]
  refine run_q (ρ := ρ) (h := h) (q := rt' x9) (va_runU (C := CNm) (b := ρ r) (As := as.map (mv ρ)) (rest := st.map (mv ρ)) ⟨C.1, C.2.1, C.2.2.1, C.2.2.2.1, hts⟩ hM (cu_of (own := mi.1) hts km1 km2 km4 km5 hw hw1 hw2 hw3 hw4 hd kr.1) ⟨PreB.blind, recv_at hV C.2.2.2.2.2.2.2.1 hcl h20 (hg x9 hx), PreB.at (as := .ref (ρ r) :: as.map (mv ρ)) hV hS C.2.2.2.2.2.2.2.1⟩ rfl (by simp) hl.1 rfl (lv_room hWr) d kr.2) hS (fun ρ' H1 locs1 hag1 hV1 hS1 => ?_)
  have er : ρ' = ρ := hag1.1
  subst er
  have fin := kk x9 hx out hf p e s m args below meth c ρ0 ρ' H1 locs1 ls C (hag.put hag1.2) hV1 hS1 hl
  rw [show ((rt' x9).1.map (mv ρ')).toList ++ st.map (mv ρ') = ((rt' x9).1.toList ++ st).map (mv ρ') by cases (rt' x9).1 <;> rfl]
  exact fin
theorem a_cX {σ : Type} {y : MethodName} {mj : MI} {as : List Value} {rt' : σ → Option Value × AH} {o' : Option σ} {f : σ → Option τ} {stk : List Value} {idx : Nat} {r ci : Nat} {CNm : String} {T : u_T} {N : Nat} (d : decode mi.2.1 pc = .ok (.invokespecial idx, 3)) (hc : CN l g y mj false (.ref r :: as) h rt' o') (hst : stk = as.reverse ++ .ref r :: st) (km : KM y mj as.length) (x : MethodName) (owner : String) (kcr : vwCl[ci]? = some (CNm, T, N)) (h20 : ci + 1 < 20) (hg : ∀ x, o' = some x → kd h r = ci + 1) (hw : Cond.methodLink mi.1 idx x ∈ UW) (hw1 : Cond.sameMethod x.cls owner x.name x.desc ∈ UW) (hw5 : Cond.superclass mi.1 x.cls ∈ UW) (hw6 : x.cls = owner ∨ Cond.superclass x.cls owner ∈ UW) (hyx : y = ⟨owner, x.name, x.desc⟩) (hw2 : Cond.instanceMethod y ∈ UW) (hno : x.name ≠ "<init>") (kr : KR mi mj k n) (hW : (st.map fun v => v.category).sum ≤ 8) (kk : ∀ x9, o' = some x9 → AO l g mi al h0 (pc + 3) lc ((rt' x9).1.toList ++ st) (rt' x9).2 (k + mj.2.2.2.2.2.1) (n + mj.2.2.2.2.2.2.1) rt (f x9)) : AO l g mi al h0 pc lc stk h k n rt (o'.bind f) := by
  intro out ho p e s m args below meth c ρ0 ρ H locs ls C hag hV hS hl
  obtain ⟨x9, hx, hf⟩ := Option.bind_eq_some_iff.mp ho
  obtain ⟨km1, km2, km3, km4, km5⟩ := km
  have hts := C.2.2.2.2.1
  have hM := hc x9 hx ρ
  have hWr : ((st.map (mv ρ)).map fun v => v.category).sum ≤ 8 := by
    rw [List.map_map]
    have e0 : ((fun v : Value => v.category) ∘ mv ρ) = fun v => v.category := funext fun v => mv_cat ρ v
    rw [e0]
    exact hW
  subst hst
  rw [show (as.reverse ++ .ref r :: st).map (mv ρ) = (as.map (mv ρ)).reverse ++ .ref (ρ r) :: st.map (mv ρ) by simp [List.map_append, List.map_reverse, mv]]
  refine run_q (ρ := ρ) (h := h) (q := rt' x9) (va_runSX (x := x) (owner := owner) (C := CNm) (b := ρ r) (As := as.map (mv ρ)) (rest := st.map (mv ρ)) (C.2.2.2.2.2.2.2.1.1.1 ci _ kcr).2 ⟨C.1, C.2.1, C.2.2.1, C.2.2.2.1, hts⟩ hM km4 km5 kr.1.1 kr.1.2 (pay_in hts (code_good km1)) List.mem_cons_self (hts _ hw) (hts _ hw1) (hts _ hw5) (hw6.imp id (fun z => hts _ z)) hyx (hts _ hw2) (hts _ km2) (hts _ km1) hno (fun sig hh => by have h2 := km3.2.2; rw [hh] at h2; exact (Option.some.inj h2).symm) ⟨PreB.blind, recv_at hV C.2.2.2.2.2.2.2.1 kcr h20 (hg x9 hx), PreB.at (as := .ref (ρ r) :: as.map (mv ρ)) hV hS C.2.2.2.2.2.2.2.1⟩ rfl (by simp) hl.1 rfl (lv_room hWr) d kr.2) hS (fun ρ' H1 locs1 hag1 hV1 hS1 => ?_)
  have er : ρ' = ρ := hag1.1
  subst er
  have fin := kk x9 hx out hf p e s m args below meth c ρ0 ρ' H1 locs1 ls C (hag.put hag1.2) hV1 hS1 hl
  rw [show ((rt' x9).1.map (mv ρ')).toList ++ st.map (mv ρ') = ((rt' x9).1.toList ++ st).map (mv ρ') by cases (rt' x9).1 <;> rfl]
  exact fin
end AR4
