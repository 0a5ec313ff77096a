section AR7
variable {τ : Type} {l : Launch} {g : GG} {mi : MI} {al : Bool} {h0 h : AH} {pc k n : Nat} {lc : List (Nat × Value)} {st : List Value} {rt : τ → Option Value × AH} {o : Option τ}
theorem a_mmax {x y : Int32} {idx : Nat} (d : decode mi.2.1 pc = .ok (.invokestatic idx, 3)) (hw1 : Cond.methodLink mi.1 idx Lib.Math.max.name ∈ UW) (hw2 : Cond.static Lib.Math.max.name ∈ UW) (hw3 : Cond.initialized "java/lang/Math" ∈ UW) (hw4 : Cond.code Lib.Math.max.name Lib.Math.max.code 2 (some .int) ∈ UW) (hf1 : 1 ≤ mi.2.2.2.2.1.frames) (hf2 : 21 ≤ mi.2.2.2.2.1.locals) (hk : k ≤ mi.2.2.2.2.1.cells) (hn : n ≤ mi.2.2.2.2.1.slots) (hW : (st.map fun v => v.category).sum ≤ 8) (kk : AO l g mi al h0 (pc + 3) lc (.int (if x < y then y else x) :: st) h k n rt o) : AO l g mi al h0 pc lc (.int y :: .int x :: st) h k n rt o := by
  intro out ho p e s m args below meth c ρ0 ρ H locs ls C hag hV hS hl
  have hWr : ((st.map (mv ρ)).map fun v => v.category).sum ≤ 8 := by
    rw [List.map_map]
    have e0 : ((fun v : Value => v.category) ∘ mv ρ) = fun v => v.category := funext fun v => mv_cat ρ v
    rw [e0]
    exact hW
  exact va_mmax C.1 C.2.1 (C.2.2.1.trans hl.1.symm) C.2.2.2.1 (C.2.2.2.2.1 _ hw1) (C.2.2.2.2.1 _ hw2) (C.2.2.2.2.1 _ hw3) (C.2.2.2.2.1 _ hw4) hf1 (by omega) hk hn d (kk out ho p e s m args below meth c ρ0 ρ H locs ls C hag hV hS hl)
theorem a_mmin {x y : Int32} {idx : Nat} (d : decode mi.2.1 pc = .ok (.invokestatic idx, 3)) (hw1 : Cond.methodLink mi.1 idx Lib.Math.min.name ∈ UW) (hw2 : Cond.static Lib.Math.min.name ∈ UW) (hw3 : Cond.initialized "java/lang/Math" ∈ UW) (hw4 : Cond.code Lib.Math.min.name Lib.Math.min.code 2 (some .int) ∈ UW) (hf1 : 1 ≤ mi.2.2.2.2.1.frames) (hf2 : 21 ≤ mi.2.2.2.2.1.locals) (hk : k ≤ mi.2.2.2.2.1.cells) (hn : n ≤ mi.2.2.2.2.1.slots) (hW : (st.map fun v => v.category).sum ≤ 8) (kk : AO l g mi al h0 (pc + 3) lc (.int (if y < x then y else x) :: st) h k n rt o) : AO l g mi al h0 pc lc (.int y :: .int x :: st) h k n rt o := by
  intro out ho p e s m args below meth c ρ0 ρ H locs ls C hag hV hS hl
  have hWr : ((st.map (mv ρ)).map fun v => v.category).sum ≤ 8 := by
    rw [List.map_map]
    have e0 : ((fun v : Value => v.category) ∘ mv ρ) = fun v => v.category := funext fun v => mv_cat ρ v
    rw [e0]
    exact hW
  exact va_mmin C.1 C.2.1 (C.2.2.1.trans hl.1.symm) C.2.2.2.1 (C.2.2.2.2.1 _ hw1) (C.2.2.2.2.1 _ hw2) (C.2.2.2.2.1 _ hw3) (C.2.2.2.2.1 _ hw4) hf1 (by omega) hk hn d (kk out ho p e s m args below meth c ρ0 ρ H locs ls C hag hV hS hl)
theorem a_mabs {x : Int32} {idx : Nat} (d : decode mi.2.1 pc = .ok (.invokestatic idx, 3)) (hw1 : Cond.methodLink mi.1 idx Lib.Math.abs.name ∈ UW) (hw2 : Cond.static Lib.Math.abs.name ∈ UW) (hw3 : Cond.initialized "java/lang/Math" ∈ UW) (hw4 : Cond.code Lib.Math.abs.name Lib.Math.abs.code 1 (some .int) ∈ UW) (hf1 : 1 ≤ mi.2.2.2.2.1.frames) (hf2 : 21 ≤ mi.2.2.2.2.1.locals) (hk : k ≤ mi.2.2.2.2.1.cells) (hn : n ≤ mi.2.2.2.2.1.slots) (hW : (st.map fun v => v.category).sum ≤ 8) (kk : AO l g mi al h0 (pc + 3) lc (.int (if 0 ≤ x then x else 0 - x) :: st) h k n rt o) : AO l g mi al h0 pc lc (.int x :: st) h k n rt o := by
  intro out ho p e s m args below meth c ρ0 ρ H locs ls C hag hV hS hl
  have hWr : ((st.map (mv ρ)).map fun v => v.category).sum ≤ 8 := by
    rw [List.map_map]
    have e0 : ((fun v : Value => v.category) ∘ mv ρ) = fun v => v.category := funext fun v => mv_cat ρ v
    rw [e0]
    exact hW
  exact va_mabs C.1 C.2.1 (C.2.2.1.trans hl.1.symm) C.2.2.2.1 (C.2.2.2.2.1 _ hw1) (C.2.2.2.2.1 _ hw2) (C.2.2.2.2.1 _ hw3) (C.2.2.2.2.1 _ hw4) hf1 (by omega) hk hn d (kk out ho p e s m args below meth c ρ0 ρ H locs ls C hag hV hS hl)
theorem a_mabs_long {x : Int64} {idx : Nat} (d : decode mi.2.1 pc = .ok (.invokestatic idx, 3)) (hw1 : Cond.methodLink mi.1 idx Lib.MathLoose.abs_long.x ∈ UW) (hw2 : Cond.static Lib.MathLoose.abs_long.x ∈ UW) (hw3 : Cond.initialized "java/lang/Math" ∈ UW) (hw4 : Cond.code Lib.MathLoose.abs_long.x Lib.MathLoose.abs_long.code 2 (some .long) ∈ UW) (hf1 : 1 ≤ mi.2.2.2.2.1.frames) (hf2 : 21 ≤ mi.2.2.2.2.1.locals) (hk : k ≤ mi.2.2.2.2.1.cells) (hn : n ≤ mi.2.2.2.2.1.slots) (hW : (st.map fun v => v.category).sum ≤ 8) (kk : AO l g mi al h0 (pc + 3) lc (.long (if 0 < x then x else -x) :: st) h k n rt o) : AO l g mi al h0 pc lc (.long x :: st) h k n rt o := by
  intro out ho p e s m args below meth c ρ0 ρ H locs ls C hag hV hS hl
  have hWr : ((st.map (mv ρ)).map fun v => v.category).sum ≤ 8 := by
    rw [List.map_map]
    have e0 : ((fun v : Value => v.category) ∘ mv ρ) = fun v => v.category := funext fun v => mv_cat ρ v
    rw [e0]
    exact hW
  exact va_mabs_long C.1 C.2.1 (C.2.2.1.trans hl.1.symm) C.2.2.2.1 (C.2.2.2.2.1 _ hw1) (C.2.2.2.2.1 _ hw2) (C.2.2.2.2.1 _ hw3) (C.2.2.2.2.1 _ hw4) hf1 (by omega) hk hn d (kk out ho p e s m args below meth c ρ0 ρ H locs ls C hag hV hS hl)
end AR7
