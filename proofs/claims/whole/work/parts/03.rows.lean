section AROWS
variable {τ : Type} {l : Launch} {g : GG} {mi : MI} {al : Bool} {h0 h : AH} {pc k n : Nat} {lc : List (Nat × Value)} {st : List Value} {rt : τ → Option Value × AH} {o : Option τ}
theorem a_iadd {x y : Int32} (d : decode mi.2.1 pc = .ok (.iadd, 1))  (kk : AO l g mi al h0 (pc + 1) lc (.int (x + y) :: st) h k n rt o) : AO l g mi al h0 pc lc (.int y :: .int x :: st) h k n rt o :=
  fun out ho p e s m args below meth c ρ0 ρ H locs ls C hag hV hS hl => lv_iadd C.1 C.2.1 d  (kk out ho p e s m args below meth c ρ0 ρ H locs ls C hag hV hS hl)
theorem a_isub {x y : Int32} (d : decode mi.2.1 pc = .ok (.isub, 1))  (kk : AO l g mi al h0 (pc + 1) lc (.int (x - y) :: st) h k n rt o) : AO l g mi al h0 pc lc (.int y :: .int x :: st) h k n rt o :=
  fun out ho p e s m args below meth c ρ0 ρ H locs ls C hag hV hS hl => lv_isub C.1 C.2.1 d  (kk out ho p e s m args below meth c ρ0 ρ H locs ls C hag hV hS hl)
theorem a_imul {x y : Int32} (d : decode mi.2.1 pc = .ok (.imul, 1))  (kk : AO l g mi al h0 (pc + 1) lc (.int (x * y) :: st) h k n rt o) : AO l g mi al h0 pc lc (.int y :: .int x :: st) h k n rt o :=
  fun out ho p e s m args below meth c ρ0 ρ H locs ls C hag hV hS hl => lv_imul C.1 C.2.1 d  (kk out ho p e s m args below meth c ρ0 ρ H locs ls C hag hV hS hl)
theorem a_iand {x y : Int32} (d : decode mi.2.1 pc = .ok (.iand, 1))  (kk : AO l g mi al h0 (pc + 1) lc (.int (x &&& y) :: st) h k n rt o) : AO l g mi al h0 pc lc (.int y :: .int x :: st) h k n rt o :=
  fun out ho p e s m args below meth c ρ0 ρ H locs ls C hag hV hS hl => lv_iand C.1 C.2.1 d  (kk out ho p e s m args below meth c ρ0 ρ H locs ls C hag hV hS hl)
theorem a_ior {x y : Int32} (d : decode mi.2.1 pc = .ok (.ior, 1))  (kk : AO l g mi al h0 (pc + 1) lc (.int (x ||| y) :: st) h k n rt o) : AO l g mi al h0 pc lc (.int y :: .int x :: st) h k n rt o :=
  fun out ho p e s m args below meth c ρ0 ρ H locs ls C hag hV hS hl => lv_ior C.1 C.2.1 d  (kk out ho p e s m args below meth c ρ0 ρ H locs ls C hag hV hS hl)
theorem a_ixor {x y : Int32} (d : decode mi.2.1 pc = .ok (.ixor, 1))  (kk : AO l g mi al h0 (pc + 1) lc (.int (x ^^^ y) :: st) h k n rt o) : AO l g mi al h0 pc lc (.int y :: .int x :: st) h k n rt o :=
  fun out ho p e s m args below meth c ρ0 ρ H locs ls C hag hV hS hl => lv_ixor C.1 C.2.1 d  (kk out ho p e s m args below meth c ρ0 ρ H locs ls C hag hV hS hl)
theorem a_ladd {x y : Int64} (d : decode mi.2.1 pc = .ok (.ladd, 1))  (kk : AO l g mi al h0 (pc + 1) lc (.long (x + y) :: st) h k n rt o) : AO l g mi al h0 pc lc (.long y :: .long x :: st) h k n rt o :=
  fun out ho p e s m args below meth c ρ0 ρ H locs ls C hag hV hS hl => lv_ladd C.1 C.2.1 d  (kk out ho p e s m args below meth c ρ0 ρ H locs ls C hag hV hS hl)
theorem a_lsub {x y : Int64} (d : decode mi.2.1 pc = .ok (.lsub, 1))  (kk : AO l g mi al h0 (pc + 1) lc (.long (x - y) :: st) h k n rt o) : AO l g mi al h0 pc lc (.long y :: .long x :: st) h k n rt o :=
  fun out ho p e s m args below meth c ρ0 ρ H locs ls C hag hV hS hl => lv_lsub C.1 C.2.1 d  (kk out ho p e s m args below meth c ρ0 ρ H locs ls C hag hV hS hl)
theorem a_lmul {x y : Int64} (d : decode mi.2.1 pc = .ok (.lmul, 1))  (kk : AO l g mi al h0 (pc + 1) lc (.long (x * y) :: st) h k n rt o) : AO l g mi al h0 pc lc (.long y :: .long x :: st) h k n rt o :=
  fun out ho p e s m args below meth c ρ0 ρ H locs ls C hag hV hS hl => lv_lmul C.1 C.2.1 d  (kk out ho p e s m args below meth c ρ0 ρ H locs ls C hag hV hS hl)
theorem a_lneg {x : Int64} (d : decode mi.2.1 pc = .ok (.lneg, 1))  (kk : AO l g mi al h0 (pc + 1) lc (.long (-x) :: st) h k n rt o) : AO l g mi al h0 pc lc (.long x :: st) h k n rt o :=
  fun out ho p e s m args below meth c ρ0 ρ H locs ls C hag hV hS hl => lv_lneg C.1 C.2.1 d  (kk out ho p e s m args below meth c ρ0 ρ H locs ls C hag hV hS hl)
theorem a_ineg {x : Int32} (d : decode mi.2.1 pc = .ok (.ineg, 1))  (kk : AO l g mi al h0 (pc + 1) lc (.int (-x) :: st) h k n rt o) : AO l g mi al h0 pc lc (.int x :: st) h k n rt o :=
  fun out ho p e s m args below meth c ρ0 ρ H locs ls C hag hV hS hl => lv_ineg C.1 C.2.1 d  (kk out ho p e s m args below meth c ρ0 ρ H locs ls C hag hV hS hl)
theorem a_idiv {x y : Int32} (d : decode mi.2.1 pc = .ok (.idiv, 1)) (kk : ¬ y = 0 → AO l g mi al h0 (pc + 1) lc (.int (x / y) :: st) h k n rt o) : AO l g mi al h0 pc lc (.int y :: .int x :: st) h k n rt (if y = 0 then none else o) := by
  intro out ho p e s m args below meth c ρ0 ρ H locs ls C hag hV hS hl
  by_cases hy : y = 0
  · rw [if_pos hy] at ho; cases ho
  · rw [if_neg hy] at ho
    exact lv_idiv C.1 C.2.1 d hy (kk hy out ho p e s m args below meth c ρ0 ρ H locs ls C hag hV hS hl)
theorem a_irem {x y : Int32} (d : decode mi.2.1 pc = .ok (.irem, 1)) (kk : ¬ y = 0 → AO l g mi al h0 (pc + 1) lc (.int (x - x / y * y) :: st) h k n rt o) : AO l g mi al h0 pc lc (.int y :: .int x :: st) h k n rt (if y = 0 then none else o) := by
  intro out ho p e s m args below meth c ρ0 ρ H locs ls C hag hV hS hl
  by_cases hy : y = 0
  · rw [if_pos hy] at ho; cases ho
  · rw [if_neg hy] at ho
    exact lv_irem C.1 C.2.1 d hy (kk hy out ho p e s m args below meth c ρ0 ρ H locs ls C hag hV hS hl)
theorem a_ldiv {x y : Int64} (d : decode mi.2.1 pc = .ok (.ldiv, 1)) (kk : ¬ y = 0 → AO l g mi al h0 (pc + 1) lc (.long (x / y) :: st) h k n rt o) : AO l g mi al h0 pc lc (.long y :: .long x :: st) h k n rt (if y = 0 then none else o) := by
  intro out ho p e s m args below meth c ρ0 ρ H locs ls C hag hV hS hl
  by_cases hy : y = 0
  · rw [if_pos hy] at ho; cases ho
  · rw [if_neg hy] at ho
    exact lv_ldiv C.1 C.2.1 d hy (kk hy out ho p e s m args below meth c ρ0 ρ H locs ls C hag hV hS hl)
theorem a_lrem {x y : Int64} (d : decode mi.2.1 pc = .ok (.lrem, 1)) (kk : ¬ y = 0 → AO l g mi al h0 (pc + 1) lc (.long (x - x / y * y) :: st) h k n rt o) : AO l g mi al h0 pc lc (.long y :: .long x :: st) h k n rt (if y = 0 then none else o) := by
  intro out ho p e s m args below meth c ρ0 ρ H locs ls C hag hV hS hl
  by_cases hy : y = 0
  · rw [if_pos hy] at ho; cases ho
  · rw [if_neg hy] at ho
    exact lv_lrem C.1 C.2.1 d hy (kk hy out ho p e s m args below meth c ρ0 ρ H locs ls C hag hV hS hl)
theorem a_i2l {x : Int32} (d : decode mi.2.1 pc = .ok (.i2l, 1)) (kk : AO l g mi al h0 (pc + 1) lc (.long x.toInt64 :: st) h k n rt o) : AO l g mi al h0 pc lc (.int x :: st) h k n rt o :=
  fun out ho p e s m args below meth c ρ0 ρ H locs ls C hag hV hS hl => lv_i2l C.1 C.2.1 d rfl (kk out ho p e s m args below meth c ρ0 ρ H locs ls C hag hV hS hl)
theorem a_l2i {x : Int64} (d : decode mi.2.1 pc = .ok (.l2i, 1)) (kk : AO l g mi al h0 (pc + 1) lc (.int x.toInt32 :: st) h k n rt o) : AO l g mi al h0 pc lc (.long x :: st) h k n rt o :=
  fun out ho p e s m args below meth c ρ0 ρ H locs ls C hag hV hS hl => lv_l2i C.1 C.2.1 d rfl (kk out ho p e s m args below meth c ρ0 ρ H locs ls C hag hV hS hl)
theorem a_i2b {x : Int32} (d : decode mi.2.1 pc = .ok (.i2b, 1)) (kk : AO l g mi al h0 (pc + 1) lc (.int x.toInt8.toInt32 :: st) h k n rt o) : AO l g mi al h0 pc lc (.int x :: st) h k n rt o :=
  fun out ho p e s m args below meth c ρ0 ρ H locs ls C hag hV hS hl => lv_i2b C.1 C.2.1 d rfl (kk out ho p e s m args below meth c ρ0 ρ H locs ls C hag hV hS hl)
theorem a_i2s {x : Int32} (d : decode mi.2.1 pc = .ok (.i2s, 1)) (kk : AO l g mi al h0 (pc + 1) lc (.int x.toInt16.toInt32 :: st) h k n rt o) : AO l g mi al h0 pc lc (.int x :: st) h k n rt o :=
  fun out ho p e s m args below meth c ρ0 ρ H locs ls C hag hV hS hl => lv_i2s C.1 C.2.1 d rfl (kk out ho p e s m args below meth c ρ0 ρ H locs ls C hag hV hS hl)
theorem a_ishl {x y : Int32} (d : decode mi.2.1 pc = .ok (.ishl, 1)) (kk : AO l g mi al h0 (pc + 1) lc (.int (x <<< (y &&& 31)) :: st) h k n rt o) : AO l g mi al h0 pc lc (.int y :: .int x :: st) h k n rt o :=
  fun out ho p e s m args below meth c ρ0 ρ H locs ls C hag hV hS hl => lv_ishl C.1 C.2.1 d (kk out ho p e s m args below meth c ρ0 ρ H locs ls C hag hV hS hl)
theorem a_ishr {x y : Int32} (d : decode mi.2.1 pc = .ok (.ishr, 1)) (kk : AO l g mi al h0 (pc + 1) lc (.int (x >>> (y &&& 31)) :: st) h k n rt o) : AO l g mi al h0 pc lc (.int y :: .int x :: st) h k n rt o :=
  fun out ho p e s m args below meth c ρ0 ρ H locs ls C hag hV hS hl => lv_ishr C.1 C.2.1 d (kk out ho p e s m args below meth c ρ0 ρ H locs ls C hag hV hS hl)
theorem a_iushr {x y : Int32} (d : decode mi.2.1 pc = .ok (.iushr, 1)) (kk : AO l g mi al h0 (pc + 1) lc (.int ((x.toUInt32 >>> (y.toUInt32 &&& Int32.toUInt32 31)).toInt32) :: st) h k n rt o) : AO l g mi al h0 pc lc (.int y :: .int x :: st) h k n rt o :=
  fun out ho p e s m args below meth c ρ0 ρ H locs ls C hag hV hS hl => lv_iushr C.1 C.2.1 d rfl (kk out ho p e s m args below meth c ρ0 ρ H locs ls C hag hV hS hl)
theorem a_lcmp {x y : Int64} (d : decode mi.2.1 pc = .ok (.lcmp, 1)) (kk : AO l g mi al h0 (pc + 1) lc (.int (lg_cmp x y) :: st) h k n rt o) : AO l g mi al h0 pc lc (.long y :: .long x :: st) h k n rt o :=
  fun out ho p e s m args below meth c ρ0 ρ H locs ls C hag hV hS hl => W.lcmp C.1 C.2.1 d (kk out ho p e s m args below meth c ρ0 ρ H locs ls C hag hV hS hl)
theorem a_iconst {z : Int} {v : Int32} (d : decode mi.2.1 pc = .ok (.iconst z, 1)) (hv : Int32.ofInt z = v) (kk : AO l g mi al h0 (pc + 1) lc (.int v :: st) h k n rt o) : AO l g mi al h0 pc lc st h k n rt o :=
  fun out ho p e s m args below meth c ρ0 ρ H locs ls C hag hV hS hl => lv_iconst C.1 C.2.1 d hv (kk out ho p e s m args below meth c ρ0 ρ H locs ls C hag hV hS hl)
theorem a_bipush {z : Int} {v : Int32} (d : decode mi.2.1 pc = .ok (.bipush z, 2)) (hv : (Int8.ofInt z).toInt32 = v) (kk : AO l g mi al h0 (pc + 2) lc (.int v :: st) h k n rt o) : AO l g mi al h0 pc lc st h k n rt o :=
  fun out ho p e s m args below meth c ρ0 ρ H locs ls C hag hV hS hl => lv_bipush C.1 C.2.1 d hv (kk out ho p e s m args below meth c ρ0 ρ H locs ls C hag hV hS hl)
theorem a_sipush {z : Int} {v : Int32} (d : decode mi.2.1 pc = .ok (.sipush z, 3)) (hv : (Int16.ofInt z).toInt32 = v) (kk : AO l g mi al h0 (pc + 3) lc (.int v :: st) h k n rt o) : AO l g mi al h0 pc lc st h k n rt o :=
  fun out ho p e s m args below meth c ρ0 ρ H locs ls C hag hV hS hl => lv_sipush C.1 C.2.1 d hv (kk out ho p e s m args below meth c ρ0 ρ H locs ls C hag hV hS hl)
theorem a_lconst {z : Fin 2} {v : Int64} (d : decode mi.2.1 pc = .ok (.lconst z, 1)) (hv : Int64.ofNat (z : Nat) = v) (kk : AO l g mi al h0 (pc + 1) lc (.long v :: st) h k n rt o) : AO l g mi al h0 pc lc st h k n rt o :=
  fun out ho p e s m args below meth c ρ0 ρ H locs ls C hag hV hS hl => lv_lconst C.1 C.2.1 d hv (kk out ho p e s m args below meth c ρ0 ρ H locs ls C hag hV hS hl)
theorem a_ldc {i : Nat} {v : Int32} (d : decode mi.2.1 pc = .ok (.ldc i, 2)) (hw : Cond.constant mi.1 i v ∈ UW) (kk : AO l g mi al h0 (pc + 2) lc (.int v :: st) h k n rt o) : AO l g mi al h0 pc lc st h k n rt o :=
  fun out ho p e s m args below meth c ρ0 ρ H locs ls C hag hV hS hl => lv_ldc C.1 C.2.1 C.2.2.2.1 (C.2.2.2.2.1 _ hw) d (kk out ho p e s m args below meth c ρ0 ρ H locs ls C hag hV hS hl)
theorem a_ldcw {i : Nat} {v : Int32} (d : decode mi.2.1 pc = .ok (.ldc_w i, 3)) (hw : Cond.constant mi.1 i v ∈ UW) (kk : AO l g mi al h0 (pc + 3) lc (.int v :: st) h k n rt o) : AO l g mi al h0 pc lc st h k n rt o :=
  fun out ho p e s m args below meth c ρ0 ρ H locs ls C hag hV hS hl => lv_ldcw C.1 C.2.1 C.2.2.2.1 (C.2.2.2.2.1 _ hw) d (kk out ho p e s m args below meth c ρ0 ρ H locs ls C hag hV hS hl)
theorem a_ldc2 {i : Nat} {v : Int64} (d : decode mi.2.1 pc = .ok (.ldc2_w i, 3)) (hw : Cond.constantLong mi.1 i v ∈ UW) (kk : AO l g mi al h0 (pc + 3) lc (.long v :: st) h k n rt o) : AO l g mi al h0 pc lc st h k n rt o :=
  fun out ho p e s m args below meth c ρ0 ρ H locs ls C hag hV hS hl => lv_ldc2 C.1 C.2.1 C.2.2.2.1 (C.2.2.2.2.1 _ hw) d (kk out ho p e s m args below meth c ρ0 ρ H locs ls C hag hV hS hl)
theorem a_null (d : decode mi.2.1 pc = .ok (.aconst_null, 1)) (kk : AO l g mi al h0 (pc + 1) lc (.null :: st) h k n rt o) : AO l g mi al h0 pc lc st h k n rt o :=
  fun out ho p e s m args below meth c ρ0 ρ H locs ls C hag hV hS hl => lv_null C.1 C.2.1 d (kk out ho p e s m args below meth c ρ0 ρ H locs ls C hag hV hS hl)
theorem lm_at {ρ : Nat → Nat} {ls : Array Slot} {nL : Nat} {lc : List (Nat × Value)} (hl : lv_has ls nL (lm ρ lc)) (q : Nat) {i : Nat} {v : Value} (hq : lc[q]? = some (i, v)) : ls[i]? = some (.val (mv ρ v)) :=
  lv_at hl q (by simp [lm, hq])
theorem a_iload {i : Nat} {x : Int32} (d : decode mi.2.1 pc = .ok (.iload i, 2)) (q : Nat) (hq : lc[q]? = some (i, .int x)) (kk : AO l g mi al h0 (pc + 2) lc (.int x :: st) h k n rt o) : AO l g mi al h0 pc lc st h k n rt o :=
  fun out ho p e s m args below meth c ρ0 ρ H locs ls C hag hV hS hl => lv_iload C.1 C.2.1 d (lm_at hl q hq) (kk out ho p e s m args below meth c ρ0 ρ H locs ls C hag hV hS hl)
theorem a_iload_n {j : Fin 4} {i : Nat} {x : Int32} (d : decode mi.2.1 pc = .ok (.iload_n j, 1)) (hi : (j : Nat) = i) (q : Nat) (hq : lc[q]? = some (i, .int x)) (kk : AO l g mi al h0 (pc + 1) lc (.int x :: st) h k n rt o) : AO l g mi al h0 pc lc st h k n rt o :=
  fun out ho p e s m args below meth c ρ0 ρ H locs ls C hag hV hS hl => lv_iload_n C.1 C.2.1 d hi (lm_at hl q hq) (kk out ho p e s m args below meth c ρ0 ρ H locs ls C hag hV hS hl)
theorem a_lload {i : Nat} {x : Int64} (d : decode mi.2.1 pc = .ok (.lload i, 2)) (q : Nat) (hq : lc[q]? = some (i, .long x)) (kk : AO l g mi al h0 (pc + 2) lc (.long x :: st) h k n rt o) : AO l g mi al h0 pc lc st h k n rt o :=
  fun out ho p e s m args below meth c ρ0 ρ H locs ls C hag hV hS hl => lv_lload C.1 C.2.1 d (lm_at hl q hq) (kk out ho p e s m args below meth c ρ0 ρ H locs ls C hag hV hS hl)
theorem a_lload_n {j : Fin 4} {i : Nat} {x : Int64} (d : decode mi.2.1 pc = .ok (.lload_n j, 1)) (hi : (j : Nat) = i) (q : Nat) (hq : lc[q]? = some (i, .long x)) (kk : AO l g mi al h0 (pc + 1) lc (.long x :: st) h k n rt o) : AO l g mi al h0 pc lc st h k n rt o :=
  fun out ho p e s m args below meth c ρ0 ρ H locs ls C hag hV hS hl => lv_lload_n C.1 C.2.1 d hi (lm_at hl q hq) (kk out ho p e s m args below meth c ρ0 ρ H locs ls C hag hV hS hl)
theorem a_aload {i r : Nat} (d : decode mi.2.1 pc = .ok (.aload i, 2)) (q : Nat) (hq : lc[q]? = some (i, .ref r)) (kk : AO l g mi al h0 (pc + 2) lc (.ref r :: st) h k n rt o) : AO l g mi al h0 pc lc st h k n rt o :=
  fun out ho p e s m args below meth c ρ0 ρ H locs ls C hag hV hS hl => lv_aload C.1 C.2.1 d (lm_at hl q hq) (kk out ho p e s m args below meth c ρ0 ρ H locs ls C hag hV hS hl)
theorem a_aload_n {j : Fin 4} {i r : Nat} (d : decode mi.2.1 pc = .ok (.aload_n j, 1)) (hi : (j : Nat) = i) (q : Nat) (hq : lc[q]? = some (i, .ref r)) (kk : AO l g mi al h0 (pc + 1) lc (.ref r :: st) h k n rt o) : AO l g mi al h0 pc lc st h k n rt o :=
  fun out ho p e s m args below meth c ρ0 ρ H locs ls C hag hV hS hl => lv_aload_n C.1 C.2.1 d hi (lm_at hl q hq) (kk out ho p e s m args below meth c ρ0 ρ H locs ls C hag hV hS hl)
theorem lm_st1 {ρ : Nat → Nat} {i : Nat} {v : Value} {lc lc' : List (Nat × Value)} (hl : (i, v) :: lc.filter (fun q => !(q.1 == i) && !(q.1 + 1 == i && q.2.category == 2)) = lc') : (i, mv ρ v) :: (lm ρ lc).filter (fun q => !(q.1 == i) && !(q.1 + 1 == i && q.2.category == 2)) = lm ρ lc' := by
  subst hl
  simp only [lm, List.map_cons, List.filter_map]
  congr 2
  refine List.filter_congr fun q _ => ?_
  simp only [Function.comp, mv_cat]
theorem lm_st2 {ρ : Nat → Nat} {i : Nat} {v : Value} {lc lc' : List (Nat × Value)} (hl : (i, v) :: lc.filter (fun q => !(q.1 == i) && (!(q.1 == i + 1) && !(q.1 + 1 == i && q.2.category == 2))) = lc') : (i, mv ρ v) :: (lm ρ lc).filter (fun q => !(q.1 == i) && (!(q.1 == i + 1) && !(q.1 + 1 == i && q.2.category == 2))) = lm ρ lc' := by
  subst hl
  simp only [lm, List.map_cons, List.filter_map]
  congr 2
  refine List.filter_congr fun q _ => ?_
  simp only [Function.comp, mv_cat]
theorem a_istore {i : Nat} {x : Int32} {lc2 : List (Nat × Value)} (d : decode mi.2.1 pc = .ok (.istore i, 2)) (hn : i < mi.2.2.1) (hl2 : (i, Value.int x) :: lc.filter (fun q => !(q.1 == i) && !(q.1 + 1 == i && q.2.category == 2)) = lc2) (kk : AO l g mi al h0 (pc + 2) lc2 st h k n rt o) : AO l g mi al h0 pc lc (.int x :: st) h k n rt o :=
  fun out ho p e s m args below meth c ρ0 ρ H locs ls C hag hV hS hl => lv_istore C.1 C.2.1 d hl hn (lm_st1 hl2) (fun ls2 hl2 => kk out ho p e s m args below meth c ρ0 ρ H locs ls2 C hag hV hS hl2)
theorem a_istore_n {j : Fin 4} {i : Nat} {x : Int32} {lc2 : List (Nat × Value)} (d : decode mi.2.1 pc = .ok (.istore_n j, 1)) (hi : (j : Nat) = i) (hn : i < mi.2.2.1) (hl2 : (i, Value.int x) :: lc.filter (fun q => !(q.1 == i) && !(q.1 + 1 == i && q.2.category == 2)) = lc2) (kk : AO l g mi al h0 (pc + 1) lc2 st h k n rt o) : AO l g mi al h0 pc lc (.int x :: st) h k n rt o :=
  fun out ho p e s m args below meth c ρ0 ρ H locs ls C hag hV hS hl => lv_istore_n C.1 C.2.1 d hi hl hn (lm_st1 hl2) (fun ls2 hl2 => kk out ho p e s m args below meth c ρ0 ρ H locs ls2 C hag hV hS hl2)
theorem a_lstore {i : Nat} {x : Int64} {lc2 : List (Nat × Value)} (d : decode mi.2.1 pc = .ok (.lstore i, 2)) (hn : i + 1 < mi.2.2.1) (hl2 : (i, Value.long x) :: lc.filter (fun q => !(q.1 == i) && (!(q.1 == i + 1) && !(q.1 + 1 == i && q.2.category == 2))) = lc2) (kk : AO l g mi al h0 (pc + 2) lc2 st h k n rt o) : AO l g mi al h0 pc lc (.long x :: st) h k n rt o :=
  fun out ho p e s m args below meth c ρ0 ρ H locs ls C hag hV hS hl => lv_lstore C.1 C.2.1 d hl hn (lm_st2 hl2) (fun ls2 hl2 => kk out ho p e s m args below meth c ρ0 ρ H locs ls2 C hag hV hS hl2)
theorem a_lstore_n {j : Fin 4} {i : Nat} {x : Int64} {lc2 : List (Nat × Value)} (d : decode mi.2.1 pc = .ok (.lstore_n j, 1)) (hi : (j : Nat) = i) (hn : i + 1 < mi.2.2.1) (hl2 : (i, Value.long x) :: lc.filter (fun q => !(q.1 == i) && (!(q.1 == i + 1) && !(q.1 + 1 == i && q.2.category == 2))) = lc2) (kk : AO l g mi al h0 (pc + 1) lc2 st h k n rt o) : AO l g mi al h0 pc lc (.long x :: st) h k n rt o :=
  fun out ho p e s m args below meth c ρ0 ρ H locs ls C hag hV hS hl => lv_lstore_n C.1 C.2.1 d hi hl hn (lm_st2 hl2) (fun ls2 hl2 => kk out ho p e s m args below meth c ρ0 ρ H locs ls2 C hag hV hS hl2)
theorem a_astore {i : Nat} {r : Nat} {lc2 : List (Nat × Value)} (d : decode mi.2.1 pc = .ok (.astore i, 2)) (hn : i < mi.2.2.1) (hl2 : (i, Value.ref r) :: lc.filter (fun q => !(q.1 == i) && !(q.1 + 1 == i && q.2.category == 2)) = lc2) (kk : AO l g mi al h0 (pc + 2) lc2 st h k n rt o) : AO l g mi al h0 pc lc (.ref r :: st) h k n rt o :=
  fun out ho p e s m args below meth c ρ0 ρ H locs ls C hag hV hS hl => lv_astore C.1 C.2.1 d hl hn (lm_st1 hl2) (fun ls2 hl2 => kk out ho p e s m args below meth c ρ0 ρ H locs ls2 C hag hV hS hl2)
theorem a_astore_n {j : Fin 4} {i : Nat} {r : Nat} {lc2 : List (Nat × Value)} (d : decode mi.2.1 pc = .ok (.astore_n j, 1)) (hi : (j : Nat) = i) (hn : i < mi.2.2.1) (hl2 : (i, Value.ref r) :: lc.filter (fun q => !(q.1 == i) && !(q.1 + 1 == i && q.2.category == 2)) = lc2) (kk : AO l g mi al h0 (pc + 1) lc2 st h k n rt o) : AO l g mi al h0 pc lc (.ref r :: st) h k n rt o :=
  fun out ho p e s m args below meth c ρ0 ρ H locs ls C hag hV hS hl => lv_astore_n C.1 C.2.1 d hi hl hn (lm_st1 hl2) (fun ls2 hl2 => kk out ho p e s m args below meth c ρ0 ρ H locs ls2 C hag hV hS hl2)
theorem a_iinc {i q : Nat} {z : Int} {x v : Int32} {lc2 : List (Nat × Value)} (d : decode mi.2.1 pc = .ok (.iinc i z, 3)) (hq : lc[q]? = some (i, .int x)) (hv : x + Int32.ofInt z = v) (hn : i < mi.2.2.1) (hl2 : (i, Value.int v) :: lc.filter (fun q => !(q.1 == i) && !(q.1 + 1 == i && q.2.category == 2)) = lc2) (kk : AO l g mi al h0 (pc + 3) lc2 st h k n rt o) : AO l g mi al h0 pc lc st h k n rt o :=
  fun out ho p e s m args below meth c ρ0 ρ H locs ls C hag hV hS hl => lv_iinc (k := q) C.1 C.2.1 d hl (by simp [lm, hq, mv]) hv hn (lm_st1 hl2) (fun ls2 hl2 => kk out ho p e s m args below meth c ρ0 ρ H locs ls2 C hag hV hS hl2)
theorem a_pick {lc2 : List (Nat × Value)} (ks : List Nat) (hp : lv_pick lc ks = lc2) (kk : AO l g mi al h0 pc lc2 st h k n rt o) : AO l g mi al h0 pc lc st h k n rt o :=
  fun out ho p e s m args below meth c ρ0 ρ H locs ls C hag hV hS hl => kk out ho p e s m args below meth c ρ0 ρ H locs ls C hag hV hS (lv_sub hl ks (by subst hp; simp only [lv_pick, lm, List.map_filterMap, List.getElem?_map]))
theorem a_dup {v : Value} (d : decode mi.2.1 pc = .ok (.dup, 1)) (hc : v.category = 1) (kk : AO l g mi al h0 (pc + 1) lc (v :: v :: st) h k n rt o) : AO l g mi al h0 pc lc (v :: st) h k n rt o :=
  fun out ho p e s m args below meth c ρ0 ρ H locs ls C hag hV hS hl => lv_dup C.1 C.2.1 d (by rw [mv_cat]; exact hc) (kk out ho p e s m args below meth c ρ0 ρ H locs ls C hag hV hS hl)
theorem a_pop {v : Value} (d : decode mi.2.1 pc = .ok (.pop, 1)) (hc : v.category = 1) (kk : AO l g mi al h0 (pc + 1) lc st h k n rt o) : AO l g mi al h0 pc lc (v :: st) h k n rt o :=
  fun out ho p e s m args below meth c ρ0 ρ H locs ls C hag hV hS hl => lv_pop C.1 C.2.1 d (by rw [mv_cat]; exact hc) (kk out ho p e s m args below meth c ρ0 ρ H locs ls C hag hV hS hl)
theorem a_dup_x1 {v w : Value} (d : decode mi.2.1 pc = .ok (.dup_x1, 1)) (hc : v.category = 1) (hw : w.category = 1) (kk : AO l g mi al h0 (pc + 1) lc (v :: w :: v :: st) h k n rt o) : AO l g mi al h0 pc lc (v :: w :: st) h k n rt o :=
  fun out ho p e s m args below meth c ρ0 ρ H locs ls C hag hV hS hl => lv_dup_x1 C.1 C.2.1 d (by rw [mv_cat]; exact hc) (by rw [mv_cat]; exact hw) (kk out ho p e s m args below meth c ρ0 ρ H locs ls C hag hV hS hl)
theorem a_dup2 {v w : Value} (d : decode mi.2.1 pc = .ok (.dup2, 1)) (hc : v.category = 1) (hw : w.category = 1) (kk : AO l g mi al h0 (pc + 1) lc (v :: w :: v :: w :: st) h k n rt o) : AO l g mi al h0 pc lc (v :: w :: st) h k n rt o :=
  fun out ho p e s m args below meth c ρ0 ρ H locs ls C hag hV hS hl => lv_dup2_11 C.1 C.2.1 d (by rw [mv_cat]; exact hc) (by rw [mv_cat]; exact hw) (kk out ho p e s m args below meth c ρ0 ρ H locs ls C hag hV hS hl)
theorem a_icmp_eq {x y : Int32} {off : Int} (tgt : Nat) {o1 o2 : Option τ} (d : decode mi.2.1 pc = .ok (.if_icmp .eq off, 3)) (ht : (pc : Int) + off = (tgt : Int)) (kt : x = y → AO l g mi al h0 tgt lc st h k n rt o1) (kf : ¬ (x = y) → AO l g mi al h0 (pc + 3) lc st h k n rt o2) : AO l g mi al h0 pc lc (.int y :: .int x :: st) h k n rt (if x = y then o1 else o2) :=
  fun out ho p e s m args below meth c ρ0 ρ H locs ls C hag hV hS hl => lv_icmp_eq C.1 C.2.1 d ht (fun cc => kt cc out (by rw [if_pos cc] at ho; exact ho) p e s m args below meth c ρ0 ρ H locs ls C hag hV hS hl) (fun cc => kf cc out (by rw [if_neg cc] at ho; exact ho) p e s m args below meth c ρ0 ρ H locs ls C hag hV hS hl)
theorem a_if_eq {x : Int32} {off : Int} (tgt : Nat) {o1 o2 : Option τ} (d : decode mi.2.1 pc = .ok (.ifCond .eq off, 3)) (ht : (pc : Int) + off = (tgt : Int)) (kt : x = 0 → AO l g mi al h0 tgt lc st h k n rt o1) (kf : ¬ (x = 0) → AO l g mi al h0 (pc + 3) lc st h k n rt o2) : AO l g mi al h0 pc lc (.int x :: st) h k n rt (if x = 0 then o1 else o2) :=
  fun out ho p e s m args below meth c ρ0 ρ H locs ls C hag hV hS hl => lv_if_eq C.1 C.2.1 d ht (fun cc => kt cc out (by rw [if_pos cc] at ho; exact ho) p e s m args below meth c ρ0 ρ H locs ls C hag hV hS hl) (fun cc => kf cc out (by rw [if_neg cc] at ho; exact ho) p e s m args below meth c ρ0 ρ H locs ls C hag hV hS hl)
theorem a_icmp_ne {x y : Int32} {off : Int} (tgt : Nat) {o1 o2 : Option τ} (d : decode mi.2.1 pc = .ok (.if_icmp .ne off, 3)) (ht : (pc : Int) + off = (tgt : Int)) (kf : x = y → AO l g mi al h0 (pc + 3) lc st h k n rt o1) (kt : ¬ (x = y) → AO l g mi al h0 tgt lc st h k n rt o2) : AO l g mi al h0 pc lc (.int y :: .int x :: st) h k n rt (if x = y then o1 else o2) :=
  fun out ho p e s m args below meth c ρ0 ρ H locs ls C hag hV hS hl => lv_icmp_ne C.1 C.2.1 d ht (fun cc => kt cc out (by rw [if_neg cc] at ho; exact ho) p e s m args below meth c ρ0 ρ H locs ls C hag hV hS hl) (fun cc => kf cc out (by rw [if_pos cc] at ho; exact ho) p e s m args below meth c ρ0 ρ H locs ls C hag hV hS hl)
theorem a_if_ne {x : Int32} {off : Int} (tgt : Nat) {o1 o2 : Option τ} (d : decode mi.2.1 pc = .ok (.ifCond .ne off, 3)) (ht : (pc : Int) + off = (tgt : Int)) (kf : x = 0 → AO l g mi al h0 (pc + 3) lc st h k n rt o1) (kt : ¬ (x = 0) → AO l g mi al h0 tgt lc st h k n rt o2) : AO l g mi al h0 pc lc (.int x :: st) h k n rt (if x = 0 then o1 else o2) :=
  fun out ho p e s m args below meth c ρ0 ρ H locs ls C hag hV hS hl => lv_if_ne C.1 C.2.1 d ht (fun cc => kt cc out (by rw [if_neg cc] at ho; exact ho) p e s m args below meth c ρ0 ρ H locs ls C hag hV hS hl) (fun cc => kf cc out (by rw [if_pos cc] at ho; exact ho) p e s m args below meth c ρ0 ρ H locs ls C hag hV hS hl)
theorem a_icmp_lt {x y : Int32} {off : Int} (tgt : Nat) {o1 o2 : Option τ} (d : decode mi.2.1 pc = .ok (.if_icmp .lt off, 3)) (ht : (pc : Int) + off = (tgt : Int)) (kt : x < y → AO l g mi al h0 tgt lc st h k n rt o1) (kf : ¬ (x < y) → AO l g mi al h0 (pc + 3) lc st h k n rt o2) : AO l g mi al h0 pc lc (.int y :: .int x :: st) h k n rt (if x < y then o1 else o2) :=
  fun out ho p e s m args below meth c ρ0 ρ H locs ls C hag hV hS hl => lv_icmp_lt C.1 C.2.1 d ht (fun cc => kt cc out (by rw [if_pos cc] at ho; exact ho) p e s m args below meth c ρ0 ρ H locs ls C hag hV hS hl) (fun cc => kf cc out (by rw [if_neg cc] at ho; exact ho) p e s m args below meth c ρ0 ρ H locs ls C hag hV hS hl)
theorem a_if_lt {x : Int32} {off : Int} (tgt : Nat) {o1 o2 : Option τ} (d : decode mi.2.1 pc = .ok (.ifCond .lt off, 3)) (ht : (pc : Int) + off = (tgt : Int)) (kt : x < 0 → AO l g mi al h0 tgt lc st h k n rt o1) (kf : ¬ (x < 0) → AO l g mi al h0 (pc + 3) lc st h k n rt o2) : AO l g mi al h0 pc lc (.int x :: st) h k n rt (if x < 0 then o1 else o2) :=
  fun out ho p e s m args below meth c ρ0 ρ H locs ls C hag hV hS hl => lv_if_lt C.1 C.2.1 d ht (fun cc => kt cc out (by rw [if_pos cc] at ho; exact ho) p e s m args below meth c ρ0 ρ H locs ls C hag hV hS hl) (fun cc => kf cc out (by rw [if_neg cc] at ho; exact ho) p e s m args below meth c ρ0 ρ H locs ls C hag hV hS hl)
theorem a_icmp_ge {x y : Int32} {off : Int} (tgt : Nat) {o1 o2 : Option τ} (d : decode mi.2.1 pc = .ok (.if_icmp .ge off, 3)) (ht : (pc : Int) + off = (tgt : Int)) (kt : y ≤ x → AO l g mi al h0 tgt lc st h k n rt o1) (kf : ¬ (y ≤ x) → AO l g mi al h0 (pc + 3) lc st h k n rt o2) : AO l g mi al h0 pc lc (.int y :: .int x :: st) h k n rt (if y ≤ x then o1 else o2) :=
  fun out ho p e s m args below meth c ρ0 ρ H locs ls C hag hV hS hl => lv_icmp_ge C.1 C.2.1 d ht (fun cc => kt cc out (by rw [if_pos cc] at ho; exact ho) p e s m args below meth c ρ0 ρ H locs ls C hag hV hS hl) (fun cc => kf cc out (by rw [if_neg cc] at ho; exact ho) p e s m args below meth c ρ0 ρ H locs ls C hag hV hS hl)
theorem a_if_ge {x : Int32} {off : Int} (tgt : Nat) {o1 o2 : Option τ} (d : decode mi.2.1 pc = .ok (.ifCond .ge off, 3)) (ht : (pc : Int) + off = (tgt : Int)) (kt : 0 ≤ x → AO l g mi al h0 tgt lc st h k n rt o1) (kf : ¬ (0 ≤ x) → AO l g mi al h0 (pc + 3) lc st h k n rt o2) : AO l g mi al h0 pc lc (.int x :: st) h k n rt (if 0 ≤ x then o1 else o2) :=
  fun out ho p e s m args below meth c ρ0 ρ H locs ls C hag hV hS hl => lv_if_ge C.1 C.2.1 d ht (fun cc => kt cc out (by rw [if_pos cc] at ho; exact ho) p e s m args below meth c ρ0 ρ H locs ls C hag hV hS hl) (fun cc => kf cc out (by rw [if_neg cc] at ho; exact ho) p e s m args below meth c ρ0 ρ H locs ls C hag hV hS hl)
theorem a_icmp_gt {x y : Int32} {off : Int} (tgt : Nat) {o1 o2 : Option τ} (d : decode mi.2.1 pc = .ok (.if_icmp .gt off, 3)) (ht : (pc : Int) + off = (tgt : Int)) (kt : y < x → AO l g mi al h0 tgt lc st h k n rt o1) (kf : ¬ (y < x) → AO l g mi al h0 (pc + 3) lc st h k n rt o2) : AO l g mi al h0 pc lc (.int y :: .int x :: st) h k n rt (if y < x then o1 else o2) :=
  fun out ho p e s m args below meth c ρ0 ρ H locs ls C hag hV hS hl => lv_icmp_gt C.1 C.2.1 d ht (fun cc => kt cc out (by rw [if_pos cc] at ho; exact ho) p e s m args below meth c ρ0 ρ H locs ls C hag hV hS hl) (fun cc => kf cc out (by rw [if_neg cc] at ho; exact ho) p e s m args below meth c ρ0 ρ H locs ls C hag hV hS hl)
theorem a_if_gt {x : Int32} {off : Int} (tgt : Nat) {o1 o2 : Option τ} (d : decode mi.2.1 pc = .ok (.ifCond .gt off, 3)) (ht : (pc : Int) + off = (tgt : Int)) (kt : 0 < x → AO l g mi al h0 tgt lc st h k n rt o1) (kf : ¬ (0 < x) → AO l g mi al h0 (pc + 3) lc st h k n rt o2) : AO l g mi al h0 pc lc (.int x :: st) h k n rt (if 0 < x then o1 else o2) :=
  fun out ho p e s m args below meth c ρ0 ρ H locs ls C hag hV hS hl => lv_if_gt C.1 C.2.1 d ht (fun cc => kt cc out (by rw [if_pos cc] at ho; exact ho) p e s m args below meth c ρ0 ρ H locs ls C hag hV hS hl) (fun cc => kf cc out (by rw [if_neg cc] at ho; exact ho) p e s m args below meth c ρ0 ρ H locs ls C hag hV hS hl)
theorem a_icmp_le {x y : Int32} {off : Int} (tgt : Nat) {o1 o2 : Option τ} (d : decode mi.2.1 pc = .ok (.if_icmp .le off, 3)) (ht : (pc : Int) + off = (tgt : Int)) (kt : x ≤ y → AO l g mi al h0 tgt lc st h k n rt o1) (kf : ¬ (x ≤ y) → AO l g mi al h0 (pc + 3) lc st h k n rt o2) : AO l g mi al h0 pc lc (.int y :: .int x :: st) h k n rt (if x ≤ y then o1 else o2) :=
  fun out ho p e s m args below meth c ρ0 ρ H locs ls C hag hV hS hl => lv_icmp_le C.1 C.2.1 d ht (fun cc => kt cc out (by rw [if_pos cc] at ho; exact ho) p e s m args below meth c ρ0 ρ H locs ls C hag hV hS hl) (fun cc => kf cc out (by rw [if_neg cc] at ho; exact ho) p e s m args below meth c ρ0 ρ H locs ls C hag hV hS hl)
theorem a_if_le {x : Int32} {off : Int} (tgt : Nat) {o1 o2 : Option τ} (d : decode mi.2.1 pc = .ok (.ifCond .le off, 3)) (ht : (pc : Int) + off = (tgt : Int)) (kt : x ≤ 0 → AO l g mi al h0 tgt lc st h k n rt o1) (kf : ¬ (x ≤ 0) → AO l g mi al h0 (pc + 3) lc st h k n rt o2) : AO l g mi al h0 pc lc (.int x :: st) h k n rt (if x ≤ 0 then o1 else o2) :=
  fun out ho p e s m args below meth c ρ0 ρ H locs ls C hag hV hS hl => lv_if_le C.1 C.2.1 d ht (fun cc => kt cc out (by rw [if_pos cc] at ho; exact ho) p e s m args below meth c ρ0 ρ H locs ls C hag hV hS hl) (fun cc => kf cc out (by rw [if_neg cc] at ho; exact ho) p e s m args below meth c ρ0 ρ H locs ls C hag hV hS hl)
theorem a_goto {off : Int} (tgt : Nat) (d : decode mi.2.1 pc = .ok (.goto off, 3)) (ht : (pc : Int) + off = (tgt : Int)) (kk : AO l g mi al h0 tgt lc st h k n rt o) : AO l g mi al h0 pc lc st h k n rt o :=
  fun out ho p e s m args below meth c ρ0 ρ H locs ls C hag hV hS hl => lv_goto C.1 C.2.1 d ht (kk out ho p e s m args below meth c ρ0 ρ H locs ls C hag hV hS hl)
theorem a_none : AO l g mi al h0 pc lc st h k n rt none := fun _ ho => by cases ho
theorem a_eq {o2 : Option τ} (he : o = o2) (kk : AO l g mi al h0 pc lc st h k n rt o2) : AO l g mi al h0 pc lc st h k n rt o := he ▸ kk
theorem a_bind {σ : Type} {q : Option σ} {f : σ → Option τ} (kk : ∀ x, q = some x → AO l g mi al h0 pc lc st h k n rt (f x)) : AO l g mi al h0 pc lc st h k n rt (q.bind f) := by
  intro out ho
  obtain ⟨x, hx, hf⟩ := Option.bind_eq_some_iff.mp ho
  exact kk x hx out hf
theorem a_gd {P : Prop} [Decidable P] (kk : P → AO l g mi al h0 pc lc st h k n rt o) : AO l g mi al h0 pc lc st h k n rt (if P then o else none) := by
  intro out ho
  by_cases hP : P
  · rw [if_pos hP] at ho; exact kk hP out ho
  · rw [if_neg hP] at ho; cases ho
theorem HV.post {g : GG} {mi : MI} {al : Bool} {ρ0 ρ : Nat → Nat} {h0 h : AH} {s t : State} {H : Heap} {locs : List Loc} {v : Option Value} {args : Array Value} (hag : AG al ρ0 h0 ρ h) (hV : HV g ρ h H) (hS : va_S (gA g) s.heap H locs) (ht : t.heap = H) : PostB g al ρ0 h0 (v, h) args s (.returned (v.map (mv ρ))) t :=
  ⟨⟨ρ, hag, rfl, by rw [ht]; exact hV⟩, hS.F ht⟩
theorem a_iret {v : Int32} {x : τ} (d : decode mi.2.1 pc = .ok (.ireturn, 1)) (hr : mi.2.2.2.1 = some .int) (hx : rt x = (some (.int v), h)) (hk : k ≤ mi.2.2.2.2.2.1) (hn : n ≤ mi.2.2.2.2.2.2.1) : AO l g mi al h0 pc lc [.int v] h k n rt (some x) := by
  intro out ho p e s m args below meth c ρ0 ρ H locs ls C hag hV hS hl
  cases ho
  rw [hx]
  exact W.widen hk hn (W.iret C.1 C.2.1 (C.2.2.2.2.2.1.trans hr) (fun t ht _ => HV.post (mi := mi) (v := some (.int v)) hag hV hS ht) hS.2.2 d C.2.2.2.2.2.2.1)
theorem a_lret {v : Int64} {x : τ} (d : decode mi.2.1 pc = .ok (.lreturn, 1)) (hr : mi.2.2.2.1 = some .long) (hx : rt x = (some (.long v), h)) (hk : k ≤ mi.2.2.2.2.2.1) (hn : n ≤ mi.2.2.2.2.2.2.1) : AO l g mi al h0 pc lc [.long v] h k n rt (some x) := by
  intro out ho p e s m args below meth c ρ0 ρ H locs ls C hag hV hS hl
  cases ho
  rw [hx]
  exact W.widen hk hn (W.lret C.1 C.2.1 (C.2.2.2.2.2.1.trans hr) (fun t ht _ => HV.post (mi := mi) (v := some (.long v)) hag hV hS ht) hS.2.2 d C.2.2.2.2.2.2.1)
theorem a_zret {v : Int32} {x : τ} (d : decode mi.2.1 pc = .ok (.ireturn, 1)) (hr : mi.2.2.2.1 = some .boolean) (hz : v = 0 ∨ v = 1) (hx : rt x = (some (.int v), h)) (hk : k ≤ mi.2.2.2.2.2.1) (hn : n ≤ mi.2.2.2.2.2.2.1) : AO l g mi al h0 pc lc [.int v] h k n rt (some x) := by
  intro out ho p e s m args below meth c ρ0 ρ H locs ls C hag hV hS hl
  cases ho
  rw [hx]
  exact W.widen hk hn (W.zret (ty := .boolean) C.1 C.2.1 (C.2.2.2.2.2.1.trans hr) (by rcases hz with rfl | rfl <;> rfl) (fun t ht _ => HV.post (mi := mi) (v := some (.int v)) hag hV hS ht) hS.2.2 d C.2.2.2.2.2.2.1)
theorem a_vret {x : τ} (d : decode mi.2.1 pc = .ok (.return_, 1)) (hr : mi.2.2.2.1 = none) (hx : rt x = (none, h)) (hk : k ≤ mi.2.2.2.2.2.1) (hn : n ≤ mi.2.2.2.2.2.2.1) : AO l g mi al h0 pc lc [] h k n rt (some x) := by
  intro out ho p e s m args below meth c ρ0 ρ H locs ls C hag hV hS hl
  cases ho
  rw [hx]
  exact W.widen hk hn (W.vret C.1 C.2.1 (C.2.2.2.2.2.1.trans hr) (fun t ht _ => HV.post (mi := mi) (v := none) hag hV hS ht) hS.2.2 d C.2.2.2.2.2.2.1)
theorem a_aret {r : Nat} {x : τ} {rty : FieldType} (d : decode mi.2.1 pc = .ok (.areturn, 1)) (hr : mi.2.2.2.1 = some rty) (hrt : (∃ n, rty = .object n) ∨ ∃ t, rty = .array t) (hx : rt x = (some (.ref r), h)) (hk : k ≤ mi.2.2.2.2.2.1) (hn : n ≤ mi.2.2.2.2.2.2.1) : AO l g mi al h0 pc lc [.ref r] h k n rt (some x) := by
  intro out ho p e s m args below meth c ρ0 ρ H locs ls C hag hV hS hl
  cases ho
  rw [hx]
  exact W.widen hk hn (W.aret (v := .ref (ρ r)) C.1 C.2.1 (C.2.2.2.2.2.1.trans hr) hrt (Or.inr ⟨_, rfl⟩) (fun t ht _ => HV.post (mi := mi) (v := some (.ref r)) hag hV hS ht) hS.2.2 d C.2.2.2.2.2.2.1)
theorem a_nret {x : τ} {rty : FieldType} (d : decode mi.2.1 pc = .ok (.areturn, 1)) (hr : mi.2.2.2.1 = some rty) (hrt : (∃ n, rty = .object n) ∨ ∃ t, rty = .array t) (hx : rt x = (some .null, h)) (hk : k ≤ mi.2.2.2.2.2.1) (hn : n ≤ mi.2.2.2.2.2.2.1) : AO l g mi al h0 pc lc [.null] h k n rt (some x) := by
  intro out ho p e s m args below meth c ρ0 ρ H locs ls C hag hV hS hl
  cases ho
  rw [hx]
  exact W.widen hk hn (W.aret (v := .null) C.1 C.2.1 (C.2.2.2.2.2.1.trans hr) hrt (Or.inl rfl) (fun t ht _ => HV.post (mi := mi) (v := some .null) hag hV hS ht) hS.2.2 d C.2.2.2.2.2.2.1)
end AROWS
