/-! ===== calls ===== -/
def rPi (h : AH) (x : Int32) : Option Value × AH := (some (.int x), h)
def rPl (h : AH) (x : Int64) : Option Value × AH := (some (.long x), h)
def rPr (h : AH) (x : Nat) : Option Value × AH := (some (.ref x), h)
def rPv (h : AH) (_ : Unit) : Option Value × AH := (none, h)
def rSi (q : Int32 × AH) : Option Value × AH := (some (.int q.1), q.2)
def rSl (q : Int64 × AH) : Option Value × AH := (some (.long q.1), q.2)
def rSv (h : AH) : Option Value × AH := (none, h)
def rSr (q : Nat × AH) : Option Value × AH := (some (.ref q.1), q.2)
def rSn (q : Option Nat × AH) : Option Value × AH := (some (va_rf q.1), q.2)
theorem run_q {p : Program} {l : Launch} {e : Env} {R : Room} {s : State} {m : MethodId} {args : Array Value} {below : List Frame} {meth : Method} {c : Code} {H : Heap} {locs : List Loc} {k n mc ms pc : Nat} {ls : Array Slot} {st0 rest : List Value} {Q : State → Prop} {g : GG} {al : Bool} {ρ : Nat → Nat} {h : AH} {q : Option Value × AH} {a : Array Value}
    (hr : va_Run p l e R s m args below meth c H locs k n mc ms (F0 m pc ls st0) rest (PostB g al ρ h q a) (gA g)) (hS : va_S (gA g) s.heap H locs)
    (kk : ∀ (ρ' : Nat → Nat) (H1 : Heap) (locs1 : List Loc), AG al ρ h ρ' q.2 → HV g ρ' q.2 H1 → va_S (gA g) s.heap H1 locs1 → W p l e R s m args below meth c H1 locs1 (k + mc) (n + ms) Q (F0 m (pc + 3) ls ((q.1.map (mv ρ')).toList ++ rest))) : W p l e R s m args below meth c H locs k n Q (F0 m pc ls st0) := by
  intro T hT X
  obtain ⟨v, st₀, t, T', L, e0, X', hL, e1, e2, ⟨⟨ρ', hag, hv, hV⟩, hz, hk⟩, st⟩ := hr T hT X
  cases hv
  rw [e0] at hz hk
  obtain ⟨t2, a1, b1⟩ := kk ρ' T'.heap (locs ++ L) hag (by rw [e1]; exact hV)
    ⟨Nat.le_trans hS.1 (by rw [e1]; exact hz), fun q h1 h2 => by rw [e1, hk q (Nat.lt_of_lt_of_le h1 hS.1) h2]; exact hS.2.1 q h1 h2, fun q hq => by
      rcases List.mem_append.mp hq with h | h
      · exact hS.2.2 q h
      · exact hL q h⟩ T' rfl X'
  exact ⟨t2, st t2 a1, b1⟩
/-- what a method of the program is: its code among the words, its class initialised -/
def KM (y : MethodName) (mj : MI) (na : Nat) : Prop :=
  Cond.code y mj.2.1 mj.2.2.1 mj.2.2.2.1 ∈ UW ∧ Cond.initialized y.cls ∈ UW ∧ (y.cls ≠ "java/lang/invoke/MethodHandle" ∧ y.cls ≠ "java/lang/invoke/VarHandle" ∧ (parseMethodDescriptor y.desc).map (fun d => d.parameters.length) = some na) ∧ mj.2.2.2.2.1.cells = mj.2.2.2.2.2.1 ∧ mj.2.2.2.2.1.slots = mj.2.2.2.2.2.2.1
/-- the callee's room within the caller's -/
def KR (mi mj : MI) (k n : Nat) : Prop := (mj.2.2.2.2.1.frames + 1 ≤ mi.2.2.2.2.1.frames ∧ 8 + (mj.2.2.1 + 11) + mj.2.2.2.2.1.locals ≤ mi.2.2.2.2.1.locals) ∧ (k + mj.2.2.2.2.2.1 ≤ mi.2.2.2.2.1.cells ∧ n + mj.2.2.2.2.2.2.1 ≤ mi.2.2.2.2.1.slots)
theorem code_good {y : MethodName} {mj : MI} (h : Cond.code y mj.2.1 mj.2.2.1 mj.2.2.2.1 ∈ UW) : GoodIn UW (Cond.code y mj.2.1 mj.2.2.1 mj.2.2.2.1 :: UW) := UW_good (fun w hw => (List.mem_cons.mp hw).elim (fun e => e ▸ h) id)
theorem PreB.at {g : GG} {ρ : Nat → Nat} {h : AH} {s : State} {H : Heap} {locs : List Loc} {as : List Value} (hV : HV g ρ h H) (hS : va_S (gA g) s.heap H locs) (hK : KK g s) : ∀ U : State, U.heap = H → s.WarmedH U.vm → va_Pc as (PreB g ρ h) as.toArray U :=
  fun U hU hW => ⟨rfl, by rw [hU]; exact hV, hK.warm hW (by rw [hU]; exact hS.1) (fun a h1 h2 => by rw [hU]; exact hS.2.1 a h1 h2)⟩
theorem recv_at {g : GG} {ρ : Nat → Nat} {h : AH} {s : State} {H : Heap} {ci r : Nat} {CN : String} {T : u_T} {N : Nat} (hV : HV g ρ h H) (hK : KK g s) (hc : vwCl[ci]? = some (CN, T, N)) (h20 : ci + 1 < 20) (hk : kd h r = ci + 1) : ∃ cell : Cell, H[ρ r]? = some cell ∧ cell.vm.isStatics = false ∧ s.vm.findClass CN = some cell.cls := by
  obtain ⟨L, hn, hm, hP, hD, hRO, hCL⟩ := id hV
  obtain ⟨q, hq, he⟩ := HV.in (g := g) (ρ := ρ) hm (r := r) (by rw [hk]; exact ⟨by omega, by omega⟩)
  rw [ec_obj hk h20] at he
  exact va_recv hK.1 hP hc he
section ACALL
variable {τ : Type} {l : Launch} {g : GG} {mi : MI} {al : Bool} {h0 h : AH} {pc k n : Nat} {lc : List (Nat × Value)} {st : List Value} {rt : τ → Option Value × AH} {o : Option τ}
theorem a_cS {σ : Type} {y : MethodName} {mj : MI} {as : List Value} {rt' : σ → Option Value × AH} {o' : Option σ} {f : σ → Option τ} {stk : List Value} {idx : Nat} (d : decode mi.2.1 pc = .ok (.invokestatic idx, 3)) (hc : CN l g y mj false as h rt' o') (hst : stk = as.reverse ++ st) (km : KM y mj as.length) (hw : Cond.methodLink mi.1 idx y ∈ UW) (hw2 : Cond.static y ∈ UW) (kr : KR mi mj k n) (hW : (st.map fun v => v.category).sum ≤ 8) (kk : ∀ x, o' = some x → AO l g mi al h0 (pc + 3) lc ((rt' x).1.toList ++ st) (rt' x).2 (k + mj.2.2.2.2.2.1) (n + mj.2.2.2.2.2.2.1) rt (f x)) : AO l g mi al h0 pc lc stk h k n rt (o'.bind f) := by
  intro out ho p e s m args below meth c ρ0 ρ H locs ls C hag hV hS hl
  obtain ⟨x, hx, hf⟩ := Option.bind_eq_some_iff.mp ho
  obtain ⟨km1, km2, km3, km4, km5⟩ := km
  have hts := C.2.2.2.2.1
  have hM := hc x hx ρ
  have hWr : ((st.map (mv ρ)).map fun v => v.category).sum ≤ 8 := by
    rw [List.map_map]
    have e0 : ((fun v : Value => v.category) ∘ mv ρ) = fun v => v.category := funext fun v => mv_cat ρ v
    rw [e0]
    exact hW
  subst hst
  rw [show (as.reverse ++ st).map (mv ρ) = (as.map (mv ρ)).reverse ++ st.map (mv ρ) by simp [List.map_append, List.map_reverse, mv]]
  refine run_q (ρ := ρ) (h := h) (q := rt' x) (va_runS (As := as.map (mv ρ)) (rest := st.map (mv ρ)) ⟨C.1, C.2.1, C.2.2.1, C.2.2.2.1, hts⟩ hM ⟨(callB_of as.length hts (code_good km1) rfl km4 km5 (hts _ km2) (hts _ hw) km3 kr.1), hts _ hw2⟩ ⟨PreB.blind, PreB.at hV hS C.2.2.2.2.2.2.2.1⟩ rfl (by simp) hl.1 rfl (lv_room hWr) d kr.2) hS (fun ρ' H1 locs1 hag1 hV1 hS1 => ?_)
  have er : ρ' = ρ := hag1.1
  subst er
  have fin := kk x hx out hf p e s m args below meth c ρ0 ρ' H1 locs1 ls C (hag.put hag1.2) hV1 hS1 hl
  rw [show ((rt' x).1.map (mv ρ')).toList ++ st.map (mv ρ') = ((rt' x).1.toList ++ st).map (mv ρ') by cases (rt' x).1 <;> rfl]
  exact fin
theorem a_cSN {σ : Type} {y : MethodName} {mj : MI} {as : List Value} {rt' : σ → Option Value × AH} {o' : Option σ} {f : σ → Option τ} {stk : List Value} {idx : Nat} {host : String} (d : decode mi.2.1 pc = .ok (.invokestatic idx, 3)) (hc : CN l g y mj false as h rt' o') (hst : stk = as.reverse ++ st) (km : KM y mj as.length) (hw : (mi.1, idx, y, host) ∈ NML) (hw2 : Cond.static y ∈ UW) (kr : KR mi mj k n) (hW : (st.map fun v => v.category).sum ≤ 8) (kk : ∀ x, o' = some x → AO l g mi al h0 (pc + 3) lc ((rt' x).1.toList ++ st) (rt' x).2 (k + mj.2.2.2.2.2.1) (n + mj.2.2.2.2.2.2.1) rt (f x)) : AO l g mi al h0 pc lc stk h k n rt (o'.bind f) := by
  intro out ho p e s m args below meth c ρ0 ρ H locs ls C hag hV hS hl
  obtain ⟨x, hx, hf⟩ := Option.bind_eq_some_iff.mp ho
  obtain ⟨km1, km2, km3, km4, km5⟩ := km
  have hts := C.2.2.2.2.1
  have hM := hc x hx ρ
  have hWr : ((st.map (mv ρ)).map fun v => v.category).sum ≤ 8 := by
    rw [List.map_map]
    have e0 : ((fun v : Value => v.category) ∘ mv ρ) = fun v => v.category := funext fun v => mv_cat ρ v
    rw [e0]
    exact hW
  subst hst
  rw [show (as.reverse ++ st).map (mv ρ) = (as.map (mv ρ)).reverse ++ st.map (mv ρ) by simp [List.map_append, List.map_reverse, mv]]
  refine run_q (ρ := ρ) (h := h) (q := rt' x) (va_runSN (As := as.map (mv ρ)) (rest := st.map (mv ρ)) ⟨C.1, C.2.1, C.2.2.1, C.2.2.2.1, hts⟩ hM ⟨(va_cnB as.length hts (code_good km1) rfl km4 km5 (C.2.2.2.2.2.2.2.1.2.2.1.2.1 _ hw) (hts _ km2) km3 kr.1), hts _ hw2, trivial⟩ ⟨PreB.blind, PreB.at hV hS C.2.2.2.2.2.2.2.1⟩ rfl (by simp) hl.1 rfl (lv_room hWr) d kr.2) hS (fun ρ' H1 locs1 hag1 hV1 hS1 => ?_)
  have er : ρ' = ρ := hag1.1
  subst er
  have fin := kk x hx out hf p e s m args below meth c ρ0 ρ' H1 locs1 ls C (hag.put hag1.2) hV1 hS1 hl
  rw [show ((rt' x).1.map (mv ρ')).toList ++ st.map (mv ρ') = ((rt' x).1.toList ++ st).map (mv ρ') by cases (rt' x).1 <;> rfl]
  exact fin
theorem a_cV {σ : Type} {y : MethodName} {mj : MI} {as : List Value} {rt' : σ → Option Value × AH} {o' : Option σ} {f : σ → Option τ} {stk : List Value} {idx : Nat} {r ci : Nat} {CNm : String} {T : u_T} {N : Nat} (d : decode mi.2.1 pc = .ok (.invokevirtual idx, 3)) (hc : CN l g y mj false (.ref r :: as) h rt' o') (hst : stk = as.reverse ++ .ref r :: st) (km : KM y mj as.length) (hcl : vwCl[ci]? = some (CNm, T, N)) (h20 : ci + 1 < 20) (hy : y.cls = CNm) (hg : ∀ x, o' = some x → kd h r = ci + 1) (hw : Cond.methodLink mi.1 idx y ∈ UW) (hw2 : Cond.instanceMethod y ∈ UW) (hw3 : Cond.selects CNm y y ∈ UW) (kr : KR mi mj k n) (hW : (st.map fun v => v.category).sum ≤ 8) (kk : ∀ x, o' = some x → AO l g mi al h0 (pc + 3) lc ((rt' x).1.toList ++ st) (rt' x).2 (k + mj.2.2.2.2.2.1) (n + mj.2.2.2.2.2.2.1) rt (f x)) : AO l g mi al h0 pc lc stk h k n rt (o'.bind f) := by
  intro out ho p e s m args below meth c ρ0 ρ H locs ls C hag hV hS hl
  obtain ⟨x, hx, hf⟩ := Option.bind_eq_some_iff.mp ho
  obtain ⟨km1, km2, km3, km4, km5⟩ := km
  have hts := C.2.2.2.2.1
  have hM := hc x hx ρ
  have hWr : ((st.map (mv ρ)).map fun v => v.category).sum ≤ 8 := by
    rw [List.map_map]
    have e0 : ((fun v : Value => v.category) ∘ mv ρ) = fun v => v.category := funext fun v => mv_cat ρ v
    rw [e0]
    exact hW
  subst hst
  rw [show (as.reverse ++ .ref r :: st).map (mv ρ) = (as.map (mv ρ)).reverse ++ .ref (ρ r) :: st.map (mv ρ) by simp [List.map_append, List.map_reverse, mv]]
  refine run_q (ρ := ρ) (h := h) (q := rt' x) (va_runV (C := CNm) (b := ρ r) (As := as.map (mv ρ)) (rest := st.map (mv ρ)) ⟨C.1, C.2.1, C.2.2.1, C.2.2.2.1, hts⟩ hM ⟨(callB_of as.length hts (code_good km1) rfl km4 km5 (hts _ km2) (hts _ hw) km3 kr.1), hts _ hw2, hts _ hw3⟩ ⟨PreB.blind, recv_at hV C.2.2.2.2.2.2.2.1 hcl h20 (hg x hx), PreB.at (as := .ref (ρ r) :: as.map (mv ρ)) hV hS C.2.2.2.2.2.2.2.1⟩ rfl (by simp) hl.1 rfl (lv_room hWr) d kr.2) hS (fun ρ' H1 locs1 hag1 hV1 hS1 => ?_)
  have er : ρ' = ρ := hag1.1
  subst er
  have fin := kk x hx out hf p e s m args below meth c ρ0 ρ' H1 locs1 ls C (hag.put hag1.2) hV1 hS1 hl
  rw [show ((rt' x).1.map (mv ρ')).toList ++ st.map (mv ρ') = ((rt' x).1.toList ++ st).map (mv ρ') by cases (rt' x).1 <;> rfl]
  exact fin
theorem a_cI {σ : Type} {y : MethodName} {mj : MI} {as : List Value} {rt' : σ → Option Value × AH} {o' : Option σ} {f : σ → Option τ} {stk : List Value} {idx : Nat} {r : Nat} (d : decode mi.2.1 pc = .ok (.invokespecial idx, 3)) (hc : CN l g y mj false (.ref r :: as) h rt' o') (hst : stk = as.reverse ++ .ref r :: st) (km : KM y mj as.length) (hret : mj.2.2.2.1 = none) (hy : y.name = "<init>") (hw : Cond.methodLink mi.1 idx y ∈ UW) (hw2 : Cond.instanceMethod y ∈ UW) (kr : KR mi mj k n) (hW : (st.map fun v => v.category).sum ≤ 8) (kk : ∀ x, o' = some x → AO l g mi al h0 (pc + 3) lc ((rt' x).1.toList ++ st) (rt' x).2 (k + mj.2.2.2.2.2.1) (n + mj.2.2.2.2.2.2.1) rt (f x)) : AO l g mi al h0 pc lc stk h k n rt (o'.bind f) := by
  intro out ho p e s m args below meth c ρ0 ρ H locs ls C hag hV hS hl
  obtain ⟨x, hx, hf⟩ := Option.bind_eq_some_iff.mp ho
  obtain ⟨km1, km2, km3, km4, km5⟩ := km
  have hts := C.2.2.2.2.1
  have hM := hc x hx ρ
  have hWr : ((st.map (mv ρ)).map fun v => v.category).sum ≤ 8 := by
    rw [List.map_map]
    have e0 : ((fun v : Value => v.category) ∘ mv ρ) = fun v => v.category := funext fun v => mv_cat ρ v
    rw [e0]
    exact hW
  subst hst
  rw [show (as.reverse ++ .ref r :: st).map (mv ρ) = (as.map (mv ρ)).reverse ++ .ref (ρ r) :: st.map (mv ρ) by simp [List.map_append, List.map_reverse, mv]]
  refine run_q (ρ := ρ) (h := h) (q := rt' x) (va_runI (b := ρ r) (As := as.map (mv ρ)) (rest := st.map (mv ρ)) ⟨C.1, C.2.1, C.2.2.1, C.2.2.2.1, hts⟩ hM ⟨by rw [hret] at km1 ⊢; exact callB_of as.length hts (by rw [← hret] at km1 ⊢; exact code_good km1) rfl km4 km5 (hts _ km2) (hts _ hw) km3 kr.1, hy, hts _ hw2⟩ ⟨PreB.blind, PreB.at (as := .ref (ρ r) :: as.map (mv ρ)) hV hS C.2.2.2.2.2.2.2.1⟩ rfl (by simp) hl.1 rfl (lv_room hWr) d kr.2) hS (fun ρ' H1 locs1 hag1 hV1 hS1 => ?_)
  have er : ρ' = ρ := hag1.1
  subst er
  have fin := kk x hx out hf p e s m args below meth c ρ0 ρ' H1 locs1 ls C (hag.put hag1.2) hV1 hS1 hl
  rw [show ((rt' x).1.map (mv ρ')).toList ++ st.map (mv ρ') = ((rt' x).1.toList ++ st).map (mv ρ') by cases (rt' x).1 <;> rfl]
  exact fin
theorem a_cS_Pi {y : MethodName} {mj : MI} {as : List Value} {o' : Option Int32} {f : Int32 → Option τ} {stk : List Value} {idx : Nat} (d : decode mi.2.1 pc = .ok (.invokestatic idx, 3)) (hc : CN l g y mj false as h (rPi h) o') (hst : stk = as.reverse ++ st) (km : KM y mj as.length) (hm : mj.2.2.2.2.2.1 = 0 ∧ mj.2.2.2.2.2.2.1 = 0) (hw : Cond.methodLink mi.1 idx y ∈ UW) (hw2 : Cond.static y ∈ UW) (kr : KR mi mj k n) (hW : (st.map fun v => v.category).sum ≤ 8) (kk : ∀ x, AO l g mi al h0 (pc + 3) lc (.int x :: st) h k n rt (f x)) : AO l g mi al h0 pc lc stk h k n rt (o'.bind f) :=
  a_cS d hc hst km hw hw2 kr hW (fun x _ => by rw [hm.1, hm.2]; exact kk x)
theorem a_cS_Pl {y : MethodName} {mj : MI} {as : List Value} {o' : Option Int64} {f : Int64 → Option τ} {stk : List Value} {idx : Nat} (d : decode mi.2.1 pc = .ok (.invokestatic idx, 3)) (hc : CN l g y mj false as h (rPl h) o') (hst : stk = as.reverse ++ st) (km : KM y mj as.length) (hm : mj.2.2.2.2.2.1 = 0 ∧ mj.2.2.2.2.2.2.1 = 0) (hw : Cond.methodLink mi.1 idx y ∈ UW) (hw2 : Cond.static y ∈ UW) (kr : KR mi mj k n) (hW : (st.map fun v => v.category).sum ≤ 8) (kk : ∀ x, AO l g mi al h0 (pc + 3) lc (.long x :: st) h k n rt (f x)) : AO l g mi al h0 pc lc stk h k n rt (o'.bind f) :=
  a_cS d hc hst km hw hw2 kr hW (fun x _ => by rw [hm.1, hm.2]; exact kk x)
theorem a_cS_Pr {y : MethodName} {mj : MI} {as : List Value} {o' : Option Nat} {f : Nat → Option τ} {stk : List Value} {idx : Nat} (d : decode mi.2.1 pc = .ok (.invokestatic idx, 3)) (hc : CN l g y mj false as h (rPr h) o') (hst : stk = as.reverse ++ st) (km : KM y mj as.length) (hm : mj.2.2.2.2.2.1 = 0 ∧ mj.2.2.2.2.2.2.1 = 0) (hw : Cond.methodLink mi.1 idx y ∈ UW) (hw2 : Cond.static y ∈ UW) (kr : KR mi mj k n) (hW : (st.map fun v => v.category).sum ≤ 8) (kk : ∀ x, AO l g mi al h0 (pc + 3) lc (.ref x :: st) h k n rt (f x)) : AO l g mi al h0 pc lc stk h k n rt (o'.bind f) :=
  a_cS d hc hst km hw hw2 kr hW (fun x _ => by rw [hm.1, hm.2]; exact kk x)
theorem a_cS_Pv {y : MethodName} {mj : MI} {as : List Value} {o' : Option Unit} {f : Unit → Option τ} {stk : List Value} {idx : Nat} (d : decode mi.2.1 pc = .ok (.invokestatic idx, 3)) (hc : CN l g y mj false as h (rPv h) o') (hst : stk = as.reverse ++ st) (km : KM y mj as.length) (hm : mj.2.2.2.2.2.1 = 0 ∧ mj.2.2.2.2.2.2.1 = 0) (hw : Cond.methodLink mi.1 idx y ∈ UW) (hw2 : Cond.static y ∈ UW) (kr : KR mi mj k n) (hW : (st.map fun v => v.category).sum ≤ 8) (kk : ∀ x, AO l g mi al h0 (pc + 3) lc (st) h k n rt (f x)) : AO l g mi al h0 pc lc stk h k n rt (o'.bind f) :=
  a_cS d hc hst km hw hw2 kr hW (fun x _ => by rw [hm.1, hm.2]; exact kk x)
theorem a_cS_Si {y : MethodName} {mj : MI} {as : List Value} {o' : Option (Int32 × AH)} {f : (Int32 × AH) → Option τ} {stk : List Value} {idx : Nat} (d : decode mi.2.1 pc = .ok (.invokestatic idx, 3)) (hc : CN l g y mj false as h rSi o') (hst : stk = as.reverse ++ st) (km : KM y mj as.length) (hm : mj.2.2.2.2.2.1 = 0 ∧ mj.2.2.2.2.2.2.1 = 0) (hw : Cond.methodLink mi.1 idx y ∈ UW) (hw2 : Cond.static y ∈ UW) (kr : KR mi mj k n) (hW : (st.map fun v => v.category).sum ≤ 8) (kk : ∀ x, AO l g mi al h0 (pc + 3) lc (.int x.1 :: st) x.2 k n rt (f x)) : AO l g mi al h0 pc lc stk h k n rt (o'.bind f) :=
  a_cS d hc hst km hw hw2 kr hW (fun x _ => by rw [hm.1, hm.2]; exact kk x)
theorem a_cS_Sl {y : MethodName} {mj : MI} {as : List Value} {o' : Option (Int64 × AH)} {f : (Int64 × AH) → Option τ} {stk : List Value} {idx : Nat} (d : decode mi.2.1 pc = .ok (.invokestatic idx, 3)) (hc : CN l g y mj false as h rSl o') (hst : stk = as.reverse ++ st) (km : KM y mj as.length) (hm : mj.2.2.2.2.2.1 = 0 ∧ mj.2.2.2.2.2.2.1 = 0) (hw : Cond.methodLink mi.1 idx y ∈ UW) (hw2 : Cond.static y ∈ UW) (kr : KR mi mj k n) (hW : (st.map fun v => v.category).sum ≤ 8) (kk : ∀ x, AO l g mi al h0 (pc + 3) lc (.long x.1 :: st) x.2 k n rt (f x)) : AO l g mi al h0 pc lc stk h k n rt (o'.bind f) :=
  a_cS d hc hst km hw hw2 kr hW (fun x _ => by rw [hm.1, hm.2]; exact kk x)
theorem a_cS_Sr {y : MethodName} {mj : MI} {as : List Value} {o' : Option (Nat × AH)} {f : (Nat × AH) → Option τ} {stk : List Value} {idx : Nat} (d : decode mi.2.1 pc = .ok (.invokestatic idx, 3)) (hc : CN l g y mj false as h rSr o') (hst : stk = as.reverse ++ st) (km : KM y mj as.length) (hm : mj.2.2.2.2.2.1 = 0 ∧ mj.2.2.2.2.2.2.1 = 0) (hw : Cond.methodLink mi.1 idx y ∈ UW) (hw2 : Cond.static y ∈ UW) (kr : KR mi mj k n) (hW : (st.map fun v => v.category).sum ≤ 8) (kk : ∀ x, AO l g mi al h0 (pc + 3) lc (.ref x.1 :: st) x.2 k n rt (f x)) : AO l g mi al h0 pc lc stk h k n rt (o'.bind f) :=
  a_cS d hc hst km hw hw2 kr hW (fun x _ => by rw [hm.1, hm.2]; exact kk x)
theorem a_cS_Sn {y : MethodName} {mj : MI} {as : List Value} {o' : Option (Option Nat × AH)} {f : (Option Nat × AH) → Option τ} {stk : List Value} {idx : Nat} (d : decode mi.2.1 pc = .ok (.invokestatic idx, 3)) (hc : CN l g y mj false as h rSn o') (hst : stk = as.reverse ++ st) (km : KM y mj as.length) (hm : mj.2.2.2.2.2.1 = 0 ∧ mj.2.2.2.2.2.2.1 = 0) (hw : Cond.methodLink mi.1 idx y ∈ UW) (hw2 : Cond.static y ∈ UW) (kr : KR mi mj k n) (hW : (st.map fun v => v.category).sum ≤ 8) (kk : ∀ x, AO l g mi al h0 (pc + 3) lc (va_rf x.1 :: st) x.2 k n rt (f x)) : AO l g mi al h0 pc lc stk h k n rt (o'.bind f) :=
  a_cS d hc hst km hw hw2 kr hW (fun x _ => by rw [hm.1, hm.2]; exact kk x)
theorem a_cS_Sv {y : MethodName} {mj : MI} {as : List Value} {o' : Option AH} {f : AH → Option τ} {stk : List Value} {idx : Nat} (d : decode mi.2.1 pc = .ok (.invokestatic idx, 3)) (hc : CN l g y mj false as h rSv o') (hst : stk = as.reverse ++ st) (km : KM y mj as.length) (hm : mj.2.2.2.2.2.1 = 0 ∧ mj.2.2.2.2.2.2.1 = 0) (hw : Cond.methodLink mi.1 idx y ∈ UW) (hw2 : Cond.static y ∈ UW) (kr : KR mi mj k n) (hW : (st.map fun v => v.category).sum ≤ 8) (kk : ∀ x, AO l g mi al h0 (pc + 3) lc (st) x k n rt (f x)) : AO l g mi al h0 pc lc stk h k n rt (o'.bind f) :=
  a_cS d hc hst km hw hw2 kr hW (fun x _ => by rw [hm.1, hm.2]; exact kk x)
theorem a_cSN_Pi {y : MethodName} {mj : MI} {as : List Value} {o' : Option Int32} {f : Int32 → Option τ} {stk : List Value} {idx : Nat} {host : String} (d : decode mi.2.1 pc = .ok (.invokestatic idx, 3)) (hc : CN l g y mj false as h (rPi h) o') (hst : stk = as.reverse ++ st) (km : KM y mj as.length) (hm : mj.2.2.2.2.2.1 = 0 ∧ mj.2.2.2.2.2.2.1 = 0) (hw : (mi.1, idx, y, host) ∈ NML) (hw2 : Cond.static y ∈ UW) (kr : KR mi mj k n) (hW : (st.map fun v => v.category).sum ≤ 8) (kk : ∀ x, AO l g mi al h0 (pc + 3) lc (.int x :: st) h k n rt (f x)) : AO l g mi al h0 pc lc stk h k n rt (o'.bind f) :=
  a_cSN d hc hst km hw hw2 kr hW (fun x _ => by rw [hm.1, hm.2]; exact kk x)
theorem a_cSN_Pl {y : MethodName} {mj : MI} {as : List Value} {o' : Option Int64} {f : Int64 → Option τ} {stk : List Value} {idx : Nat} {host : String} (d : decode mi.2.1 pc = .ok (.invokestatic idx, 3)) (hc : CN l g y mj false as h (rPl h) o') (hst : stk = as.reverse ++ st) (km : KM y mj as.length) (hm : mj.2.2.2.2.2.1 = 0 ∧ mj.2.2.2.2.2.2.1 = 0) (hw : (mi.1, idx, y, host) ∈ NML) (hw2 : Cond.static y ∈ UW) (kr : KR mi mj k n) (hW : (st.map fun v => v.category).sum ≤ 8) (kk : ∀ x, AO l g mi al h0 (pc + 3) lc (.long x :: st) h k n rt (f x)) : AO l g mi al h0 pc lc stk h k n rt (o'.bind f) :=
  a_cSN d hc hst km hw hw2 kr hW (fun x _ => by rw [hm.1, hm.2]; exact kk x)
theorem a_cSN_Pr {y : MethodName} {mj : MI} {as : List Value} {o' : Option Nat} {f : Nat → Option τ} {stk : List Value} {idx : Nat} {host : String} (d : decode mi.2.1 pc = .ok (.invokestatic idx, 3)) (hc : CN l g y mj false as h (rPr h) o') (hst : stk = as.reverse ++ st) (km : KM y mj as.length) (hm : mj.2.2.2.2.2.1 = 0 ∧ mj.2.2.2.2.2.2.1 = 0) (hw : (mi.1, idx, y, host) ∈ NML) (hw2 : Cond.static y ∈ UW) (kr : KR mi mj k n) (hW : (st.map fun v => v.category).sum ≤ 8) (kk : ∀ x, AO l g mi al h0 (pc + 3) lc (.ref x :: st) h k n rt (f x)) : AO l g mi al h0 pc lc stk h k n rt (o'.bind f) :=
  a_cSN d hc hst km hw hw2 kr hW (fun x _ => by rw [hm.1, hm.2]; exact kk x)
theorem a_cSN_Pv {y : MethodName} {mj : MI} {as : List Value} {o' : Option Unit} {f : Unit → Option τ} {stk : List Value} {idx : Nat} {host : String} (d : decode mi.2.1 pc = .ok (.invokestatic idx, 3)) (hc : CN l g y mj false as h (rPv h) o') (hst : stk = as.reverse ++ st) (km : KM y mj as.length) (hm : mj.2.2.2.2.2.1 = 0 ∧ mj.2.2.2.2.2.2.1 = 0) (hw : (mi.1, idx, y, host) ∈ NML) (hw2 : Cond.static y ∈ UW) (kr : KR mi mj k n) (hW : (st.map fun v => v.category).sum ≤ 8) (kk : ∀ x, AO l g mi al h0 (pc + 3) lc (st) h k n rt (f x)) : AO l g mi al h0 pc lc stk h k n rt (o'.bind f) :=
  a_cSN d hc hst km hw hw2 kr hW (fun x _ => by rw [hm.1, hm.2]; exact kk x)
theorem a_cSN_Si {y : MethodName} {mj : MI} {as : List Value} {o' : Option (Int32 × AH)} {f : (Int32 × AH) → Option τ} {stk : List Value} {idx : Nat} {host : String} (d : decode mi.2.1 pc = .ok (.invokestatic idx, 3)) (hc : CN l g y mj false as h rSi o') (hst : stk = as.reverse ++ st) (km : KM y mj as.length) (hm : mj.2.2.2.2.2.1 = 0 ∧ mj.2.2.2.2.2.2.1 = 0) (hw : (mi.1, idx, y, host) ∈ NML) (hw2 : Cond.static y ∈ UW) (kr : KR mi mj k n) (hW : (st.map fun v => v.category).sum ≤ 8) (kk : ∀ x, AO l g mi al h0 (pc + 3) lc (.int x.1 :: st) x.2 k n rt (f x)) : AO l g mi al h0 pc lc stk h k n rt (o'.bind f) :=
  a_cSN d hc hst km hw hw2 kr hW (fun x _ => by rw [hm.1, hm.2]; exact kk x)
theorem a_cSN_Sl {y : MethodName} {mj : MI} {as : List Value} {o' : Option (Int64 × AH)} {f : (Int64 × AH) → Option τ} {stk : List Value} {idx : Nat} {host : String} (d : decode mi.2.1 pc = .ok (.invokestatic idx, 3)) (hc : CN l g y mj false as h rSl o') (hst : stk = as.reverse ++ st) (km : KM y mj as.length) (hm : mj.2.2.2.2.2.1 = 0 ∧ mj.2.2.2.2.2.2.1 = 0) (hw : (mi.1, idx, y, host) ∈ NML) (hw2 : Cond.static y ∈ UW) (kr : KR mi mj k n) (hW : (st.map fun v => v.category).sum ≤ 8) (kk : ∀ x, AO l g mi al h0 (pc + 3) lc (.long x.1 :: st) x.2 k n rt (f x)) : AO l g mi al h0 pc lc stk h k n rt (o'.bind f) :=
  a_cSN d hc hst km hw hw2 kr hW (fun x _ => by rw [hm.1, hm.2]; exact kk x)
theorem a_cSN_Sr {y : MethodName} {mj : MI} {as : List Value} {o' : Option (Nat × AH)} {f : (Nat × AH) → Option τ} {stk : List Value} {idx : Nat} {host : String} (d : decode mi.2.1 pc = .ok (.invokestatic idx, 3)) (hc : CN l g y mj false as h rSr o') (hst : stk = as.reverse ++ st) (km : KM y mj as.length) (hm : mj.2.2.2.2.2.1 = 0 ∧ mj.2.2.2.2.2.2.1 = 0) (hw : (mi.1, idx, y, host) ∈ NML) (hw2 : Cond.static y ∈ UW) (kr : KR mi mj k n) (hW : (st.map fun v => v.category).sum ≤ 8) (kk : ∀ x, AO l g mi al h0 (pc + 3) lc (.ref x.1 :: st) x.2 k n rt (f x)) : AO l g mi al h0 pc lc stk h k n rt (o'.bind f) :=
  a_cSN d hc hst km hw hw2 kr hW (fun x _ => by rw [hm.1, hm.2]; exact kk x)
theorem a_cSN_Sn {y : MethodName} {mj : MI} {as : List Value} {o' : Option (Option Nat × AH)} {f : (Option Nat × AH) → Option τ} {stk : List Value} {idx : Nat} {host : String} (d : decode mi.2.1 pc = .ok (.invokestatic idx, 3)) (hc : CN l g y mj false as h rSn o') (hst : stk = as.reverse ++ st) (km : KM y mj as.length) (hm : mj.2.2.2.2.2.1 = 0 ∧ mj.2.2.2.2.2.2.1 = 0) (hw : (mi.1, idx, y, host) ∈ NML) (hw2 : Cond.static y ∈ UW) (kr : KR mi mj k n) (hW : (st.map fun v => v.category).sum ≤ 8) (kk : ∀ x, AO l g mi al h0 (pc + 3) lc (va_rf x.1 :: st) x.2 k n rt (f x)) : AO l g mi al h0 pc lc stk h k n rt (o'.bind f) :=
  a_cSN d hc hst km hw hw2 kr hW (fun x _ => by rw [hm.1, hm.2]; exact kk x)
theorem a_cSN_Sv {y : MethodName} {mj : MI} {as : List Value} {o' : Option AH} {f : AH → Option τ} {stk : List Value} {idx : Nat} {host : String} (d : decode mi.2.1 pc = .ok (.invokestatic idx, 3)) (hc : CN l g y mj false as h rSv o') (hst : stk = as.reverse ++ st) (km : KM y mj as.length) (hm : mj.2.2.2.2.2.1 = 0 ∧ mj.2.2.2.2.2.2.1 = 0) (hw : (mi.1, idx, y, host) ∈ NML) (hw2 : Cond.static y ∈ UW) (kr : KR mi mj k n) (hW : (st.map fun v => v.category).sum ≤ 8) (kk : ∀ x, AO l g mi al h0 (pc + 3) lc (st) x k n rt (f x)) : AO l g mi al h0 pc lc stk h k n rt (o'.bind f) :=
  a_cSN d hc hst km hw hw2 kr hW (fun x _ => by rw [hm.1, hm.2]; exact kk x)
theorem a_cV_Pi {y : MethodName} {mj : MI} {as : List Value} {o' : Option Int32} {f : Int32 → Option τ} {stk : List Value} {idx : Nat} {r ci : Nat} {CNm : String} {T : u_T} {N : Nat} (d : decode mi.2.1 pc = .ok (.invokevirtual idx, 3)) (hc : CN l g y mj false (.ref r :: as) h (rPi h) o') (hst : stk = as.reverse ++ .ref r :: st) (km : KM y mj as.length) (hm : mj.2.2.2.2.2.1 = 0 ∧ mj.2.2.2.2.2.2.1 = 0) (hcl : vwCl[ci]? = some (CNm, T, N)) (h20 : ci + 1 < 20) (hy : y.cls = CNm) (hg : ∀ x, o' = some x → kd h r = ci + 1) (hw : Cond.methodLink mi.1 idx y ∈ UW) (hw2 : Cond.instanceMethod y ∈ UW) (hw3 : Cond.selects CNm y y ∈ UW) (kr : KR mi mj k n) (hW : (st.map fun v => v.category).sum ≤ 8) (kk : ∀ x, AO l g mi al h0 (pc + 3) lc (.int x :: st) h k n rt (f x)) : AO l g mi al h0 pc lc stk h k n rt (o'.bind f) :=
  a_cV d hc hst km hcl h20 hy hg hw hw2 hw3 kr hW (fun x _ => by rw [hm.1, hm.2]; exact kk x)
theorem a_cV_Pl {y : MethodName} {mj : MI} {as : List Value} {o' : Option Int64} {f : Int64 → Option τ} {stk : List Value} {idx : Nat} {r ci : Nat} {CNm : String} {T : u_T} {N : Nat} (d : decode mi.2.1 pc = .ok (.invokevirtual idx, 3)) (hc : CN l g y mj false (.ref r :: as) h (rPl h) o') (hst : stk = as.reverse ++ .ref r :: st) (km : KM y mj as.length) (hm : mj.2.2.2.2.2.1 = 0 ∧ mj.2.2.2.2.2.2.1 = 0) (hcl : vwCl[ci]? = some (CNm, T, N)) (h20 : ci + 1 < 20) (hy : y.cls = CNm) (hg : ∀ x, o' = some x → kd h r = ci + 1) (hw : Cond.methodLink mi.1 idx y ∈ UW) (hw2 : Cond.instanceMethod y ∈ UW) (hw3 : Cond.selects CNm y y ∈ UW) (kr : KR mi mj k n) (hW : (st.map fun v => v.category).sum ≤ 8) (kk : ∀ x, AO l g mi al h0 (pc + 3) lc (.long x :: st) h k n rt (f x)) : AO l g mi al h0 pc lc stk h k n rt (o'.bind f) :=
  a_cV d hc hst km hcl h20 hy hg hw hw2 hw3 kr hW (fun x _ => by rw [hm.1, hm.2]; exact kk x)
theorem a_cV_Pr {y : MethodName} {mj : MI} {as : List Value} {o' : Option Nat} {f : Nat → Option τ} {stk : List Value} {idx : Nat} {r ci : Nat} {CNm : String} {T : u_T} {N : Nat} (d : decode mi.2.1 pc = .ok (.invokevirtual idx, 3)) (hc : CN l g y mj false (.ref r :: as) h (rPr h) o') (hst : stk = as.reverse ++ .ref r :: st) (km : KM y mj as.length) (hm : mj.2.2.2.2.2.1 = 0 ∧ mj.2.2.2.2.2.2.1 = 0) (hcl : vwCl[ci]? = some (CNm, T, N)) (h20 : ci + 1 < 20) (hy : y.cls = CNm) (hg : ∀ x, o' = some x → kd h r = ci + 1) (hw : Cond.methodLink mi.1 idx y ∈ UW) (hw2 : Cond.instanceMethod y ∈ UW) (hw3 : Cond.selects CNm y y ∈ UW) (kr : KR mi mj k n) (hW : (st.map fun v => v.category).sum ≤ 8) (kk : ∀ x, AO l g mi al h0 (pc + 3) lc (.ref x :: st) h k n rt (f x)) : AO l g mi al h0 pc lc stk h k n rt (o'.bind f) :=
  a_cV d hc hst km hcl h20 hy hg hw hw2 hw3 kr hW (fun x _ => by rw [hm.1, hm.2]; exact kk x)
theorem a_cV_Pv {y : MethodName} {mj : MI} {as : List Value} {o' : Option Unit} {f : Unit → Option τ} {stk : List Value} {idx : Nat} {r ci : Nat} {CNm : String} {T : u_T} {N : Nat} (d : decode mi.2.1 pc = .ok (.invokevirtual idx, 3)) (hc : CN l g y mj false (.ref r :: as) h (rPv h) o') (hst : stk = as.reverse ++ .ref r :: st) (km : KM y mj as.length) (hm : mj.2.2.2.2.2.1 = 0 ∧ mj.2.2.2.2.2.2.1 = 0) (hcl : vwCl[ci]? = some (CNm, T, N)) (h20 : ci + 1 < 20) (hy : y.cls = CNm) (hg : ∀ x, o' = some x → kd h r = ci + 1) (hw : Cond.methodLink mi.1 idx y ∈ UW) (hw2 : Cond.instanceMethod y ∈ UW) (hw3 : Cond.selects CNm y y ∈ UW) (kr : KR mi mj k n) (hW : (st.map fun v => v.category).sum ≤ 8) (kk : ∀ x, AO l g mi al h0 (pc + 3) lc (st) h k n rt (f x)) : AO l g mi al h0 pc lc stk h k n rt (o'.bind f) :=
  a_cV d hc hst km hcl h20 hy hg hw hw2 hw3 kr hW (fun x _ => by rw [hm.1, hm.2]; exact kk x)
theorem a_cV_Si {y : MethodName} {mj : MI} {as : List Value} {o' : Option (Int32 × AH)} {f : (Int32 × AH) → Option τ} {stk : List Value} {idx : Nat} {r ci : Nat} {CNm : String} {T : u_T} {N : Nat} (d : decode mi.2.1 pc = .ok (.invokevirtual idx, 3)) (hc : CN l g y mj false (.ref r :: as) h rSi o') (hst : stk = as.reverse ++ .ref r :: st) (km : KM y mj as.length) (hm : mj.2.2.2.2.2.1 = 0 ∧ mj.2.2.2.2.2.2.1 = 0) (hcl : vwCl[ci]? = some (CNm, T, N)) (h20 : ci + 1 < 20) (hy : y.cls = CNm) (hg : ∀ x, o' = some x → kd h r = ci + 1) (hw : Cond.methodLink mi.1 idx y ∈ UW) (hw2 : Cond.instanceMethod y ∈ UW) (hw3 : Cond.selects CNm y y ∈ UW) (kr : KR mi mj k n) (hW : (st.map fun v => v.category).sum ≤ 8) (kk : ∀ x, AO l g mi al h0 (pc + 3) lc (.int x.1 :: st) x.2 k n rt (f x)) : AO l g mi al h0 pc lc stk h k n rt (o'.bind f) :=
  a_cV d hc hst km hcl h20 hy hg hw hw2 hw3 kr hW (fun x _ => by rw [hm.1, hm.2]; exact kk x)
theorem a_cV_Sl {y : MethodName} {mj : MI} {as : List Value} {o' : Option (Int64 × AH)} {f : (Int64 × AH) → Option τ} {stk : List Value} {idx : Nat} {r ci : Nat} {CNm : String} {T : u_T} {N : Nat} (d : decode mi.2.1 pc = .ok (.invokevirtual idx, 3)) (hc : CN l g y mj false (.ref r :: as) h rSl o') (hst : stk = as.reverse ++ .ref r :: st) (km : KM y mj as.length) (hm : mj.2.2.2.2.2.1 = 0 ∧ mj.2.2.2.2.2.2.1 = 0) (hcl : vwCl[ci]? = some (CNm, T, N)) (h20 : ci + 1 < 20) (hy : y.cls = CNm) (hg : ∀ x, o' = some x → kd h r = ci + 1) (hw : Cond.methodLink mi.1 idx y ∈ UW) (hw2 : Cond.instanceMethod y ∈ UW) (hw3 : Cond.selects CNm y y ∈ UW) (kr : KR mi mj k n) (hW : (st.map fun v => v.category).sum ≤ 8) (kk : ∀ x, AO l g mi al h0 (pc + 3) lc (.long x.1 :: st) x.2 k n rt (f x)) : AO l g mi al h0 pc lc stk h k n rt (o'.bind f) :=
  a_cV d hc hst km hcl h20 hy hg hw hw2 hw3 kr hW (fun x _ => by rw [hm.1, hm.2]; exact kk x)
theorem a_cV_Sr {y : MethodName} {mj : MI} {as : List Value} {o' : Option (Nat × AH)} {f : (Nat × AH) → Option τ} {stk : List Value} {idx : Nat} {r ci : Nat} {CNm : String} {T : u_T} {N : Nat} (d : decode mi.2.1 pc = .ok (.invokevirtual idx, 3)) (hc : CN l g y mj false (.ref r :: as) h rSr o') (hst : stk = as.reverse ++ .ref r :: st) (km : KM y mj as.length) (hm : mj.2.2.2.2.2.1 = 0 ∧ mj.2.2.2.2.2.2.1 = 0) (hcl : vwCl[ci]? = some (CNm, T, N)) (h20 : ci + 1 < 20) (hy : y.cls = CNm) (hg : ∀ x, o' = some x → kd h r = ci + 1) (hw : Cond.methodLink mi.1 idx y ∈ UW) (hw2 : Cond.instanceMethod y ∈ UW) (hw3 : Cond.selects CNm y y ∈ UW) (kr : KR mi mj k n) (hW : (st.map fun v => v.category).sum ≤ 8) (kk : ∀ x, AO l g mi al h0 (pc + 3) lc (.ref x.1 :: st) x.2 k n rt (f x)) : AO l g mi al h0 pc lc stk h k n rt (o'.bind f) :=
  a_cV d hc hst km hcl h20 hy hg hw hw2 hw3 kr hW (fun x _ => by rw [hm.1, hm.2]; exact kk x)
theorem a_cV_Sn {y : MethodName} {mj : MI} {as : List Value} {o' : Option (Option Nat × AH)} {f : (Option Nat × AH) → Option τ} {stk : List Value} {idx : Nat} {r ci : Nat} {CNm : String} {T : u_T} {N : Nat} (d : decode mi.2.1 pc = .ok (.invokevirtual idx, 3)) (hc : CN l g y mj false (.ref r :: as) h rSn o') (hst : stk = as.reverse ++ .ref r :: st) (km : KM y mj as.length) (hm : mj.2.2.2.2.2.1 = 0 ∧ mj.2.2.2.2.2.2.1 = 0) (hcl : vwCl[ci]? = some (CNm, T, N)) (h20 : ci + 1 < 20) (hy : y.cls = CNm) (hg : ∀ x, o' = some x → kd h r = ci + 1) (hw : Cond.methodLink mi.1 idx y ∈ UW) (hw2 : Cond.instanceMethod y ∈ UW) (hw3 : Cond.selects CNm y y ∈ UW) (kr : KR mi mj k n) (hW : (st.map fun v => v.category).sum ≤ 8) (kk : ∀ x, AO l g mi al h0 (pc + 3) lc (va_rf x.1 :: st) x.2 k n rt (f x)) : AO l g mi al h0 pc lc stk h k n rt (o'.bind f) :=
  a_cV d hc hst km hcl h20 hy hg hw hw2 hw3 kr hW (fun x _ => by rw [hm.1, hm.2]; exact kk x)
theorem a_cV_Sv {y : MethodName} {mj : MI} {as : List Value} {o' : Option AH} {f : AH → Option τ} {stk : List Value} {idx : Nat} {r ci : Nat} {CNm : String} {T : u_T} {N : Nat} (d : decode mi.2.1 pc = .ok (.invokevirtual idx, 3)) (hc : CN l g y mj false (.ref r :: as) h rSv o') (hst : stk = as.reverse ++ .ref r :: st) (km : KM y mj as.length) (hm : mj.2.2.2.2.2.1 = 0 ∧ mj.2.2.2.2.2.2.1 = 0) (hcl : vwCl[ci]? = some (CNm, T, N)) (h20 : ci + 1 < 20) (hy : y.cls = CNm) (hg : ∀ x, o' = some x → kd h r = ci + 1) (hw : Cond.methodLink mi.1 idx y ∈ UW) (hw2 : Cond.instanceMethod y ∈ UW) (hw3 : Cond.selects CNm y y ∈ UW) (kr : KR mi mj k n) (hW : (st.map fun v => v.category).sum ≤ 8) (kk : ∀ x, AO l g mi al h0 (pc + 3) lc (st) x k n rt (f x)) : AO l g mi al h0 pc lc stk h k n rt (o'.bind f) :=
  a_cV d hc hst km hcl h20 hy hg hw hw2 hw3 kr hW (fun x _ => by rw [hm.1, hm.2]; exact kk x)
end ACALL
