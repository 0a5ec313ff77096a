section AR6
variable {τ : Type} {l : Launch} {g : GG} {mi : MI} {al : Bool} {h0 h : AH} {pc k n : Nat} {lc : List (Nat × Value)} {st : List Value} {rt : τ → Option Value × AH} {o : Option τ}
theorem recvS_at {ρ : Nat → Nat} {s : State} {H : Heap} {locs : List Loc} {r : Nat} (hV : HV g ρ h H) (hK : KK g s) (hS : va_S (gA g) s.heap H locs) (hk : kd h r = 40) : ∃ cell : Cell, H[ρ r]? = some cell ∧ cell.vm.isStatics = false ∧ s.vm.findClass "java/lang/String" = some cell.cls := by
  obtain ⟨L, hn, hm, hP, hD, hRO, hCL⟩ := id hV
  obtain ⟨i, hi, rfl⟩ := hRO.2.2.2.1 r hk
  rw [(hRO.2.2.1 i hi).1]
  exact vk_recv hK.2.1.2.1 hi hS
theorem a_cVS {σ : Type} {y : MethodName} {mj : MI} {as : List Value} {rt' : σ → Option Value × AH} {o' : Option σ} {f : σ → Option τ} {stk : List Value} {idx : Nat} {r : Nat} (d : decode mi.2.1 pc = .ok (.invokevirtual idx, 3)) (hc : CN l g y mj false (.ref r :: as) h rt' o') (hst : stk = as.reverse ++ .ref r :: st) (km : KM y mj as.length) (hy : y.cls = "java/lang/String") (hg : ∀ x, o' = some x → kd h r = 40) (hw : Cond.methodLink mi.1 idx y ∈ UW) (hw2 : Cond.instanceMethod y ∈ UW) (hw3 : Cond.selects "java/lang/String" y y ∈ UW) (kr : KR mi mj k n) (hW : (st.map fun v => v.category).sum ≤ 8) (kk : ∀ x, o' = some x → AO l g mi al h0 (pc + 3) lc ((rt' x).1.toList ++ st) (rt' x).2 (k + mj.2.2.2.2.2.1) (n + mj.2.2.2.2.2.2.1) rt (f x)) : AO l g mi al h0 pc lc stk h k n rt (o'.bind f) := by
  intro out ho p e s m args below meth c ρ0 ρ H locs ls C hag hV hS hl
  obtain ⟨x, hx, hf⟩ := Option.bind_eq_some_iff.mp ho
  obtain ⟨km1, km2, km3, km4, km5⟩ := km
  have hts := C.2.2.2.2.1
  have hM := hc x hx ρ
  have hWr : ((st.map (mv ρ)).map fun v => v.category).sum ≤ 8 := by
    rw [List.map_map]
    have e0 : ((fun v : Value => v.category) ∘ mv ρ) = fun v => v.category := funext fun v => mv_cat ρ v
    rw [e0]
    exact hW
  subst hst
  rw [show (as.reverse ++ .ref r :: st).map (mv ρ) = (as.map (mv ρ)).reverse ++ .ref (ρ r) :: st.map (mv ρ) by simp [List.map_append, List.map_reverse, mv]]
  refine run_q (ρ := ρ) (h := h) (q := rt' x) (va_runV (C := "java/lang/String") (b := ρ r) (As := as.map (mv ρ)) (rest := st.map (mv ρ)) ⟨C.1, C.2.1, C.2.2.1, C.2.2.2.1, hts⟩ hM ⟨(callB_of as.length hts (code_good km1) rfl km4 km5 (hts _ km2) (hts _ hw) km3 kr.1), hts _ hw2, hts _ hw3⟩ ⟨PreB.blind, recvS_at hV C.2.2.2.2.2.2.2.1 hS (hg x hx), PreB.at (as := .ref (ρ r) :: as.map (mv ρ)) hV hS C.2.2.2.2.2.2.2.1⟩ rfl (by simp) hl.1 rfl (lv_room hWr) d kr.2) hS (fun ρ' H1 locs1 hag1 hV1 hS1 => ?_)
  have er : ρ' = ρ := hag1.1
  subst er
  have fin := kk x hx out hf p e s m args below meth c ρ0 ρ' H1 locs1 ls C (hag.put hag1.2) hV1 hS1 hl
  rw [show ((rt' x).1.map (mv ρ')).toList ++ st.map (mv ρ') = ((rt' x).1.toList ++ st).map (mv ρ') by cases (rt' x).1 <;> rfl]
  exact fin
theorem a_cVS_Pi {y : MethodName} {mj : MI} {as : List Value} {o' : Option Int32} {f : Int32 → Option τ} {stk : List Value} {idx : Nat} {r : Nat} (d : decode mi.2.1 pc = .ok (.invokevirtual idx, 3)) (hc : CN l g y mj false (.ref r :: as) h (rPi h) o') (hst : stk = as.reverse ++ .ref r :: st) (km : KM y mj as.length) (hm : mj.2.2.2.2.2.1 = 0 ∧ mj.2.2.2.2.2.2.1 = 0) (hy : y.cls = "java/lang/String") (hg : ∀ x, o' = some x → kd h r = 40) (hw : Cond.methodLink mi.1 idx y ∈ UW) (hw2 : Cond.instanceMethod y ∈ UW) (hw3 : Cond.selects "java/lang/String" y y ∈ UW) (kr : KR mi mj k n) (hW : (st.map fun v => v.category).sum ≤ 8) (kk : ∀ x, AO l g mi al h0 (pc + 3) lc (.int x :: st) h k n rt (f x)) : AO l g mi al h0 pc lc stk h k n rt (o'.bind f) :=
  a_cVS d hc hst km hy hg hw hw2 hw3 kr hW (fun x _ => by rw [hm.1, hm.2]; exact kk x)
end AR6
/-- the first free block of eight roles for a Term -/
def tfree (h : AH) : Nat := 1000 + 8 * (((List.range 600).find? (fun i => kd h (1000 + 8 * i) == 0)).getD 600)
