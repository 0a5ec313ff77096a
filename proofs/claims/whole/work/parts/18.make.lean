/-! ===== making cells ===== -/
def rfs (lc : List (Nat × Value)) (st : List Value) : List Nat := (lc.map (fun q => q.2) ++ st).filterMap (fun v => match v with | .ref a => some a | _ => none)
def gl (h : AH) (rs : List Nat) : Option Unit := if rs.all (fun x => !(kd h x == 0)) = true then some () else none
def xnw (h : AH) (r ci : Nat) : Option AH := if kd h r = 0 then some (mkc h r (ci + 1) 0) else none
def xna (h : AH) (r t : Nat) (z : Int32) : Option AH := if kd h r = 0 ∧ ¬ z < 0 ∧ z.toNatClampNeg ≤ 100000 then some (mkc h r (20 + t) z.toNatClampNeg) else none
theorem gl_live {h : AH} {rs : List Nat} {u : Unit} (e : gl h rs = some u) : ∀ x ∈ rs, kd h x ≠ 0 := by
  unfold gl at e
  split at e
  case isTrue hh =>
    intro x hx
    have := List.all_eq_true.mp hh x hx
    simpa using this
  case isFalse => cases e
theorem rfs_lc {lc : List (Nat × Value)} {st : List Value} {q : Nat × Value} {a : Nat} (hq : q ∈ lc) (e : q.2 = .ref a) : a ∈ rfs lc st := by
  unfold rfs
  exact List.mem_filterMap.mpr ⟨q.2, List.mem_append_left _ (List.mem_map.mpr ⟨q, hq, rfl⟩), by rw [e]⟩
theorem rfs_st {lc : List (Nat × Value)} {st : List Value} {a : Nat} (hq : Value.ref a ∈ st) : a ∈ rfs lc st := by
  unfold rfs
  exact List.mem_filterMap.mpr ⟨_, List.mem_append_right _ hq, rfl⟩
theorem lm_eq {ρ ρ' : Nat → Nat} {lc : List (Nat × Value)} (h : ∀ q ∈ lc, ∀ a, q.2 = .ref a → ρ' a = ρ a) : lm ρ' lc = lm ρ lc := by
  unfold lm
  refine List.map_congr_left fun q hq => ?_
  have := h q hq
  cases hv : q.2 with
  | ref a => simp only [mv]; rw [this a hv]
  | _ => rfl
theorem st_eq {ρ ρ' : Nat → Nat} {st : List Value} (h : ∀ a, Value.ref a ∈ st → ρ' a = ρ a) : st.map (mv ρ') = st.map (mv ρ) := by
  refine List.map_congr_left fun v hv => ?_
  cases v with
  | ref a => simp only [mv]; rw [h a hv]
  | _ => rfl
theorem mkc_ne {h : AH} {r c n j : Nat} (hj : j ≠ r) : kd (mkc h r c n) j = kd h j ∧ ln (mkc h r c n) j = ln h j ∧ fi (mkc h r c n) j = fi h j ∧ fr (mkc h r c n) j = fr h j ∧ ai (mkc h r c n) j = ai h j ∧ ar (mkc h r c n) j = ar h j :=
  ⟨if_neg hj, if_neg hj, if_neg hj, if_neg hj, if_neg hj, if_neg hj⟩
theorem mkc_eq {h : AH} {r c n : Nat} : kd (mkc h r c n) r = c ∧ ln (mkc h r c n) r = n ∧ fi (mkc h r c n) r = (fun _ => 0) ∧ fr (mkc h r c n) r = (fun _ => none) ∧ ai (mkc h r c n) r = (fun _ => 0) ∧ ar (mkc h r c n) r = (fun _ => none) :=
  ⟨if_pos rfl, if_pos rfl, if_pos rfl, if_pos rfl, if_pos rfl, if_pos rfl⟩
theorem HV.grow {g : GG} {ρ : Nat → Nat} {h : AH} {H1 : Heap} {L : List Nat} {r c n q : Nat} (hn : L.Nodup) (hm : ∀ r, r ∈ L ↔ lvk (kd h r)) (hR : ROh g ρ h) (hC : CL h) (hr : kd h r = 0) (hc : lvk c)
    (hP : va_P (gD g) vwCl (L.map (cel g h ρ) ++ [(q, ec g (mkc h r c n) (va_up ρ r q) r)]) H1) (hD : va_D (gA g) (L.map (cel g h ρ) ++ [(q, ec g (mkc h r c n) (va_up ρ r q) r)])) : HV g (va_up ρ r q) (mkc h r c n) H1 := by
  have up : ∀ j, j ≠ r → va_up ρ r q j = ρ j := fun j hj => if_neg hj
  have upr : va_up ρ r q r = q := if_pos rfl
  have nr : ∀ j, kd h j ≠ 0 → j ≠ r := fun j hj e => hj (e ▸ hr)
  have mo : ∀ (x : Option Nat), (∀ y, x = some y → kd h y ≠ 0) → x.map (va_up ρ r q) = x.map ρ := by
    intro x hx
    cases x with
    | none => rfl
    | some y => show some _ = some _; rw [up y (nr y (hx y rfl))]
  have hL : ∀ j, j ∈ L → cel g (mkc h r c n) (va_up ρ r q) j = cel g h ρ j := by
    intro j hj
    have hlj := (hm j).mp hj
    have hjr : j ≠ r := nr j (by have := hlj.1; omega)
    obtain ⟨e1, e2, e3, e4, e5, e6⟩ := mkc_ne (h := h) (r := r) (c := c) (n := n) hjr
    unfold cel
    rw [up j hjr]
    refine congrArg (fun z => (ρ j, z)) ?_
    unfold ec
    rw [e1, e2, e5, e6]
    have ef : fvs (mkc h r c n) (va_up ρ r q) j (kd h j - 1) = fvs h ρ j (kd h j - 1) := by
      unfold fvs
      refine List.map_congr_left fun i _ => ?_
      unfold fv
      rw [e3, e4, mo _ (fun y hy => hC.1 j i y hy)]
    have ea : (fun i => (ar h j i).map (va_up ρ r q)) = (fun i => (ar h j i).map ρ) := funext fun i => mo _ (fun y hy => hC.2 j i y hy)
    rw [ef, ea]
  have es : L.map (cel g h ρ) ++ [(q, ec g (mkc h r c n) (va_up ρ r q) r)] = (L ++ [r]).map (cel g (mkc h r c n) (va_up ρ r q)) := by
    rw [List.map_append]
    congr 1
    · exact (List.map_congr_left hL).symm
    · show _ = [cel _ _ _ r]
      unfold cel
      rw [upr]
  rw [es] at hP hD
  have hrL : r ∉ L := fun hh => by have := ((hm r).mp hh).1; omega
  refine ⟨L ++ [r], ?_, ?_, hP, hD, ?_, ?_⟩
  · refine List.nodup_append.mpr ⟨hn, (List.pairwise_singleton _ r), ?_⟩
    intro a ha b hb e
    rw [List.mem_singleton] at hb
    subst hb; subst e
    exact hrL ha
  · intro j
    rw [List.mem_append, List.mem_singleton]
    by_cases hj : j = r
    · subst hj
      rw [mkc_eq.1]
      exact ⟨fun _ => hc, fun _ => Or.inr rfl⟩
    · rw [(mkc_ne hj).1, hm j]
      exact ⟨fun q => q.elim id (fun e => absurd e hj), Or.inl⟩
  · obtain ⟨r1, r2, r3, r4, r5, r6, r7, r8, r9, r10, r11, r12⟩ := hR
    have ne : ∀ j, kd h j ≠ 0 → kd (mkc h r c n) j = kd h j ∧ ln (mkc h r c n) j = ln h j ∧ ai (mkc h r c n) j = ai h j ∧ va_up ρ r q j = ρ j := fun j hj => ⟨(mkc_ne (nr j hj)).1, (mkc_ne (nr j hj)).2.1, (mkc_ne (nr j hj)).2.2.2.2.1, up j (nr j hj)⟩
    have back : ∀ j z, kd (mkc h r c n) j = z → ¬ lvk z → z ≠ 0 → kd h j = z := by
      intro j z hz h1 h2
      by_cases hj : j = r
      · subst hj
        rw [mkc_eq.1] at hz
        exact absurd (hz ▸ hc) h1
      · rw [(mkc_ne hj).1] at hz
        exact hz
    refine ⟨fun i hi => ?_, fun j hj => r2 j (back j 30 hj (fun z => absurd z.2 (by decide)) (by decide)), fun i hi => ?_, fun j hj => r4 j (back j 40 hj (fun z => absurd z.2 (by decide)) (by decide)), ?_, fun j hj => r6 j (back j 33 hj (fun z => absurd z.2 (by decide)) (by decide)), fun j => ?_, fun i hi => ?_, fun j hj => r9 j (back j 41 hj (fun z => absurd z.2 (by decide)) (by decide)), ?_, ?_, fun j hj => r12 j (back j 50 hj (fun z => absurd z.2 (by decide)) (by decide))⟩
    · obtain ⟨a1, a2, a3, a4⟩ := r1 i hi
      obtain ⟨b1, b2, b3, b4⟩ := ne (9000 + i) (by rw [a2]; decide)
      exact ⟨b4.trans a1, b1.trans a2, b2.trans a3, b3.trans a4⟩
    · obtain ⟨a1, a2⟩ := r3 i hi
      obtain ⟨b1, b2, b3, b4⟩ := ne (9100 + i) (by rw [a2]; decide)
      exact ⟨b4.trans a1, b1.trans a2⟩
    · obtain ⟨a1, a2, a3⟩ := r5
      obtain ⟨b1, b2, b3, b4⟩ := ne 9200 (by rw [a2]; decide)
      exact ⟨b4.trans a1, b1.trans a2, b2.trans a3⟩
    · by_cases hj : j = r
      · subst hj
        rw [mkc_eq.1]
        exact Or.inr (Or.inl hc)
      · rw [(mkc_ne hj).1]
        exact r7 j
    · obtain ⟨a1, a2, a3, a4⟩ := r8 i hi
      obtain ⟨b1, b2, b3, b4⟩ := ne (9120 + i) (by rw [a2]; decide)
      exact ⟨b4.trans a1, b1.trans a2, b2.trans a3, b3.trans a4⟩
    · obtain ⟨a1, a2⟩ := r10
      obtain ⟨b1, b2, b3, b4⟩ := ne 9300 (by rw [a2]; decide)
      exact ⟨b4.trans a1, b1.trans a2⟩
    · obtain ⟨a1, a2⟩ := r11
      obtain ⟨b1, b2, b3, b4⟩ := ne 9301 (by rw [a2]; decide)
      exact ⟨b4.trans a1, b1.trans a2⟩
  · have live : ∀ y, kd h y ≠ 0 → kd (mkc h r c n) y ≠ 0 := fun y hy => by rw [(mkc_ne (nr y hy)).1]; exact hy
    refine ⟨fun j i y hy => ?_, fun j i y hy => ?_⟩
    · by_cases hj : j = r
      · subst hj
        rw [mkc_eq.2.2.2.1] at hy
        cases hy
      · rw [(mkc_ne hj).2.2.2.1] at hy
        exact live y (hC.1 j i y hy)
    · by_cases hj : j = r
      · subst hj
        rw [mkc_eq.2.2.2.2.2] at hy
        cases hy
      · rw [(mkc_ne hj).2.2.2.2.2] at hy
        exact live y (hC.2 j i y hy)
theorem up_ne {ρ : Nat → Nat} {h : AH} {r q a : Nat} (hr : kd h r = 0) (ha : kd h a ≠ 0) : va_up ρ r q a = ρ a := if_neg (fun e : a = r => ha (e ▸ hr))
theorem AG.grow {ρ0 ρ : Nat → Nat} {h0 h : AH} {r c n q : Nat} (hr : kd h r = 0) (hc : c ≠ 0) (hag : AG true ρ0 h0 ρ h) : AG true ρ0 h0 (va_up ρ r q) (mkc h r c n) := by
  intro j hj
  obtain ⟨h1, h2⟩ := hag j hj
  have hjr : j ≠ r := fun e => h2 (e ▸ hr)
  exact ⟨(if_neg hjr : va_up ρ r q j = ρ j).trans h1, by rw [(mkc_ne hjr).1]; exact h2⟩
section AMK
variable {τ : Type} {l : Launch} {g : GG} {mi : MI} {al : Bool} {h0 h : AH} {pc k n : Nat} {lc : List (Nat × Value)} {st : List Value} {rt : τ → Option Value × AH} {o : Option τ}
theorem a_new {ci : Nat} {CN : String} {T : u_T} {N : Nat} {ty : Nat → FieldType} (kc : KC ci CN T N ty) {idx : Nat} {r : Nat} {f : AH → Option τ} (rs : List Nat) (hrs : rfs lc (st) = rs) (d : decode mi.2.1 pc = .ok (.new idx, 3)) (hdv : ∀ j, j < N → defaultValue (ty j) = if isR ci j = true then .null else .int 0) (hw1 : Cond.classLink mi.1 idx CN ∈ UW) (hw2 : Cond.instantiable CN N ∈ UW) (hw3 : Cond.initialized CN ∈ UW) (hkc : k + 1 ≤ mi.2.2.2.2.1.cells) (hks : n + N ≤ mi.2.2.2.2.1.slots) (kk : ∀ h2, AO l g mi true h0 (pc + 3) lc (.ref r :: st) h2 (k + 1) (n + N) rt (f h2)) : AO l g mi true h0 pc lc (st) h k n rt ((gl h rs).bind fun _ => (xnw h r ci).bind f) := by
  intro out ho p e s m args below meth c ρ0 ρ H locs ls C hag hV hS hl
  obtain ⟨u, hgl, ho⟩ := Option.bind_eq_some_iff.mp ho
  obtain ⟨h2, hx, hf⟩ := Option.bind_eq_some_iff.mp ho
  have hlive := gl_live hgl
  subst hrs
  obtain ⟨k1, k2, k3, k4, k5, k6⟩ := kc
  unfold xnw at hx
  split at hx
  case isFalse => cases hx
  case isTrue hr =>
  cases hx
  obtain ⟨L, hn, hm, hP, hD, hRO, hCL⟩ := id hV
  have hA : ∀ q, s.heap.size ≤ q → gA g q := fun q hq => Nat.le_trans (C.2.2.2.2.2.2.2.1).2.2.2 hq
  refine va_new (ci := ci) (fs := fvs (mkc h r (ci + 1) 0) ρ r ci) C.1 C.2.1 C.2.2.2.2.1 k4 ty k5 C.2.2.2.1 (C.2.2.2.2.1 _ hw1) (C.2.2.2.2.1 _ hw2) (C.2.2.2.2.1 _ hw3) (C.2.2.2.2.2.2.2.1).1 hP hD hS hA k1 (fun j hj => ?_) hkc hks d (fun q H1 hP1 hD1 hS1 => ?_)
  · rw [hdv j hj]
    have e9 : vp_V (fvs (mkc h r (ci + 1) 0) ρ r ci) j = fv (mkc h r (ci + 1) 0) ρ r ci j := by
      unfold vp_V
      rw [List.getD_eq_getElem?_getD, fvs_at (by rw [k2]; exact hj)]
      rfl
    rw [e9]
    unfold fv
    rw [mkc_eq.2.2.1, mkc_eq.2.2.2.1]
    rfl
  have hee : ec g (mkc h r (ci + 1) 0) (va_up ρ r q) r = .inr (ci, fvs (mkc h r (ci + 1) 0) ρ r ci) := by
    rw [ec_obj mkc_eq.1 k3]
    refine congrArg (fun z => Sum.inr (ci, z)) ?_
    unfold fvs
    refine List.map_congr_left fun i _ => ?_
    unfold fv
    rw [mkc_eq.2.2.2.1]
    rfl
  refine kk (mkc h r (ci + 1) 0) out hf p e s m args below meth c ρ0 (va_up ρ r q) H1 locs ls C (hag.grow hr (by omega)) (HV.grow hn hm hRO hCL hr (by unfold lvk; omega) ?_ ?_) hS1 ?_ |> (fun fin => by
    have e1 : (Value.ref r :: st).map (mv (va_up ρ r q)) = .ref q :: st.map (mv ρ) := by
      show mv _ (.ref r) :: st.map _ = _
      rw [st_eq (ρ := ρ) (fun a ha => up_ne hr (hlive a (rfs_st ha)))]
      show Value.ref (va_up ρ r q r) :: _ = _
      rw [show va_up ρ r q r = q from if_pos rfl]
    rw [e1] at fin
    exact fin)
  · rw [hee]; exact hP1
  · rw [hee]; exact hD1
  · rw [lm_eq (ρ := ρ) (fun z hz a ha => up_ne hr (hlive a (rfs_lc hz ha)))]
    exact hl
theorem a_newa_int {z : Int32} {r : Nat} {f : AH → Option τ} (rs : List Nat) (hrs : rfs lc (.int z :: st) = rs) (d : decode mi.2.1 pc = .ok (.newarray .int, 2)) (hw1 : Cond.arrayClass .int ∈ UW) (hkc : k + 1 ≤ mi.2.2.2.2.1.cells) (hks : n + z.toNatClampNeg ≤ mi.2.2.2.2.1.slots) (kk : ∀ h2, AO l g mi true h0 (pc + 2) lc (.ref r :: st) h2 (k + 1) (n + z.toNatClampNeg) rt (f h2)) : AO l g mi true h0 pc lc (.int z :: st) h k n rt ((gl h rs).bind fun _ => (xna h r 0 z).bind f) := by
  intro out ho p e s m args below meth c ρ0 ρ H locs ls C hag hV hS hl
  obtain ⟨u, hgl, ho⟩ := Option.bind_eq_some_iff.mp ho
  obtain ⟨h2, hx, hf⟩ := Option.bind_eq_some_iff.mp ho
  have hlive := gl_live hgl
  subst hrs
  unfold xna at hx
  split at hx
  case isFalse => cases hx
  case isTrue hr3 =>
  obtain ⟨hr, hz1, hz2⟩ := hr3
  cases hx
  obtain ⟨L, hn, hm, hP, hD, hRO, hCL⟩ := id hV
  have hA : ∀ q, s.heap.size ≤ q → gA g q := fun q hq => Nat.le_trans (C.2.2.2.2.2.2.2.1).2.2.2 hq
  refine va_newa (atype := .int) (ty := .int) (N' := z.toNatClampNeg) (a0 := (z.toNatClampNeg, .inl (fun _ => 0))) C.1 C.2.1 (C.2.2.2.2.1 _ hw1) rfl (C.2.2.2.2.2.2.2.1).1 hP hD hS hA (fun _ => rfl) hz1 rfl (by show z.toNatClampNeg * _ ≤ _; simp only [componentBytes]; omega) hkc hks d (fun q cA H1 hK1 hP1 hD1 hS1 => ?_)
  have hcA : cA = gcs g 0 := by
    have e1 := (hK1.2 5 (cA, .int) rfl).2
    have e2 := ((C.2.2.2.2.2.2.2.1).1.2 0 (gcs g 0, .int) rfl).2
    exact Option.some.inj (Eq.trans (Eq.symm e1) e2)
  subst hcA
  have hee : ec g (mkc h r (20 + 0) z.toNatClampNeg) (va_up ρ r q) r = .inl (gcs g 0, (z.toNatClampNeg, .inl (fun _ => 0))) := by
    rw [ec_ints (t := 0) mkc_eq.1 (by decide), mkc_eq.2.1, mkc_eq.2.2.2.2.1]
  refine kk (mkc h r (20 + 0) z.toNatClampNeg) out hf p e s m args below meth c ρ0 (va_up ρ r q) H1 locs ls C (hag.grow hr (by omega)) (HV.grow hn hm hRO hCL hr (by unfold lvk; omega) ?_ ?_) hS1 ?_ |> (fun fin => by
    have e1 : (Value.ref r :: st).map (mv (va_up ρ r q)) = .ref q :: st.map (mv ρ) := by
      show mv _ (.ref r) :: st.map _ = _
      rw [st_eq (ρ := ρ) (fun a ha => up_ne hr (hlive a (rfs_st (List.mem_cons_of_mem _ ha))))]
      show Value.ref (va_up ρ r q r) :: _ = _
      rw [show va_up ρ r q r = q from if_pos rfl]
    rw [e1] at fin
    exact fin)
  · rw [hee]; exact hP1
  · rw [hee]; exact hD1
  · rw [lm_eq (ρ := ρ) (fun z hz a ha => up_ne hr (hlive a (rfs_lc hz ha)))]
    exact hl
theorem a_newa_boolean {z : Int32} {r : Nat} {f : AH → Option τ} (rs : List Nat) (hrs : rfs lc (.int z :: st) = rs) (d : decode mi.2.1 pc = .ok (.newarray .boolean, 2)) (hw1 : Cond.arrayClass .boolean ∈ UW) (hkc : k + 1 ≤ mi.2.2.2.2.1.cells) (hks : n + z.toNatClampNeg ≤ mi.2.2.2.2.1.slots) (kk : ∀ h2, AO l g mi true h0 (pc + 2) lc (.ref r :: st) h2 (k + 1) (n + z.toNatClampNeg) rt (f h2)) : AO l g mi true h0 pc lc (.int z :: st) h k n rt ((gl h rs).bind fun _ => (xna h r 1 z).bind f) := by
  intro out ho p e s m args below meth c ρ0 ρ H locs ls C hag hV hS hl
  obtain ⟨u, hgl, ho⟩ := Option.bind_eq_some_iff.mp ho
  obtain ⟨h2, hx, hf⟩ := Option.bind_eq_some_iff.mp ho
  have hlive := gl_live hgl
  subst hrs
  unfold xna at hx
  split at hx
  case isFalse => cases hx
  case isTrue hr3 =>
  obtain ⟨hr, hz1, hz2⟩ := hr3
  cases hx
  obtain ⟨L, hn, hm, hP, hD, hRO, hCL⟩ := id hV
  have hA : ∀ q, s.heap.size ≤ q → gA g q := fun q hq => Nat.le_trans (C.2.2.2.2.2.2.2.1).2.2.2 hq
  refine va_newa (atype := .boolean) (ty := .boolean) (N' := z.toNatClampNeg) (a0 := (z.toNatClampNeg, .inl (fun _ => 0))) C.1 C.2.1 (C.2.2.2.2.1 _ hw1) rfl (C.2.2.2.2.2.2.2.1).1 hP hD hS hA (fun _ => rfl) hz1 rfl (by show z.toNatClampNeg * _ ≤ _; simp only [componentBytes]; omega) hkc hks d (fun q cA H1 hK1 hP1 hD1 hS1 => ?_)
  have hcA : cA = gcs g 1 := by
    have e1 := (hK1.2 5 (cA, .boolean) rfl).2
    have e2 := ((C.2.2.2.2.2.2.2.1).1.2 1 (gcs g 1, .boolean) rfl).2
    exact Option.some.inj (Eq.trans (Eq.symm e1) e2)
  subst hcA
  have hee : ec g (mkc h r (20 + 1) z.toNatClampNeg) (va_up ρ r q) r = .inl (gcs g 1, (z.toNatClampNeg, .inl (fun _ => 0))) := by
    rw [ec_ints (t := 1) mkc_eq.1 (by decide), mkc_eq.2.1, mkc_eq.2.2.2.2.1]
  refine kk (mkc h r (20 + 1) z.toNatClampNeg) out hf p e s m args below meth c ρ0 (va_up ρ r q) H1 locs ls C (hag.grow hr (by omega)) (HV.grow hn hm hRO hCL hr (by unfold lvk; omega) ?_ ?_) hS1 ?_ |> (fun fin => by
    have e1 : (Value.ref r :: st).map (mv (va_up ρ r q)) = .ref q :: st.map (mv ρ) := by
      show mv _ (.ref r) :: st.map _ = _
      rw [st_eq (ρ := ρ) (fun a ha => up_ne hr (hlive a (rfs_st (List.mem_cons_of_mem _ ha))))]
      show Value.ref (va_up ρ r q r) :: _ = _
      rw [show va_up ρ r q r = q from if_pos rfl]
    rw [e1] at fin
    exact fin)
  · rw [hee]; exact hP1
  · rw [hee]; exact hD1
  · rw [lm_eq (ρ := ρ) (fun z hz a ha => up_ne hr (hlive a (rfs_lc hz ha)))]
    exact hl
theorem a_newa_byte {z : Int32} {r : Nat} {f : AH → Option τ} (rs : List Nat) (hrs : rfs lc (.int z :: st) = rs) (d : decode mi.2.1 pc = .ok (.newarray .byte, 2)) (hw1 : Cond.arrayClass .byte ∈ UW) (hkc : k + 1 ≤ mi.2.2.2.2.1.cells) (hks : n + z.toNatClampNeg ≤ mi.2.2.2.2.1.slots) (kk : ∀ h2, AO l g mi true h0 (pc + 2) lc (.ref r :: st) h2 (k + 1) (n + z.toNatClampNeg) rt (f h2)) : AO l g mi true h0 pc lc (.int z :: st) h k n rt ((gl h rs).bind fun _ => (xna h r 2 z).bind f) := by
  intro out ho p e s m args below meth c ρ0 ρ H locs ls C hag hV hS hl
  obtain ⟨u, hgl, ho⟩ := Option.bind_eq_some_iff.mp ho
  obtain ⟨h2, hx, hf⟩ := Option.bind_eq_some_iff.mp ho
  have hlive := gl_live hgl
  subst hrs
  unfold xna at hx
  split at hx
  case isFalse => cases hx
  case isTrue hr3 =>
  obtain ⟨hr, hz1, hz2⟩ := hr3
  cases hx
  obtain ⟨L, hn, hm, hP, hD, hRO, hCL⟩ := id hV
  have hA : ∀ q, s.heap.size ≤ q → gA g q := fun q hq => Nat.le_trans (C.2.2.2.2.2.2.2.1).2.2.2 hq
  refine va_newa (atype := .byte) (ty := .byte) (N' := z.toNatClampNeg) (a0 := (z.toNatClampNeg, .inl (fun _ => 0))) C.1 C.2.1 (C.2.2.2.2.1 _ hw1) rfl (C.2.2.2.2.2.2.2.1).1 hP hD hS hA (fun _ => rfl) hz1 rfl (by show z.toNatClampNeg * _ ≤ _; simp only [componentBytes]; omega) hkc hks d (fun q cA H1 hK1 hP1 hD1 hS1 => ?_)
  have hcA : cA = gcs g 2 := by
    have e1 := (hK1.2 5 (cA, .byte) rfl).2
    have e2 := ((C.2.2.2.2.2.2.2.1).1.2 2 (gcs g 2, .byte) rfl).2
    exact Option.some.inj (Eq.trans (Eq.symm e1) e2)
  subst hcA
  have hee : ec g (mkc h r (20 + 2) z.toNatClampNeg) (va_up ρ r q) r = .inl (gcs g 2, (z.toNatClampNeg, .inl (fun _ => 0))) := by
    rw [ec_ints (t := 2) mkc_eq.1 (by decide), mkc_eq.2.1, mkc_eq.2.2.2.2.1]
  refine kk (mkc h r (20 + 2) z.toNatClampNeg) out hf p e s m args below meth c ρ0 (va_up ρ r q) H1 locs ls C (hag.grow hr (by omega)) (HV.grow hn hm hRO hCL hr (by unfold lvk; omega) ?_ ?_) hS1 ?_ |> (fun fin => by
    have e1 : (Value.ref r :: st).map (mv (va_up ρ r q)) = .ref q :: st.map (mv ρ) := by
      show mv _ (.ref r) :: st.map _ = _
      rw [st_eq (ρ := ρ) (fun a ha => up_ne hr (hlive a (rfs_st (List.mem_cons_of_mem _ ha))))]
      show Value.ref (va_up ρ r q r) :: _ = _
      rw [show va_up ρ r q r = q from if_pos rfl]
    rw [e1] at fin
    exact fin)
  · rw [hee]; exact hP1
  · rw [hee]; exact hD1
  · rw [lm_eq (ρ := ρ) (fun z hz a ha => up_ne hr (hlive a (rfs_lc hz ha)))]
    exact hl
theorem a_newq3 {z : Int32} {idx : Nat} {r : Nat} {f : AH → Option τ} (rs : List Nat) (hrs : rfs lc (.int z :: st) = rs) (d : decode mi.2.1 pc = .ok (.anewarray idx, 3)) (hw1 : Cond.classLink mi.1 idx "java/lang/Object" ∈ UW) (hkc : k + 1 ≤ mi.2.2.2.2.1.cells) (hks : n + z.toNatClampNeg ≤ mi.2.2.2.2.1.slots) (kk : ∀ h2, AO l g mi true h0 (pc + 3) lc (.ref r :: st) h2 (k + 1) (n + z.toNatClampNeg) rt (f h2)) : AO l g mi true h0 pc lc (.int z :: st) h k n rt ((gl h rs).bind fun _ => (xna h r 3 z).bind f) := by
  intro out ho p e s m args below meth c ρ0 ρ H locs ls C hag hV hS hl
  obtain ⟨u, hgl, ho⟩ := Option.bind_eq_some_iff.mp ho
  obtain ⟨h2, hx, hf⟩ := Option.bind_eq_some_iff.mp ho
  have hlive := gl_live hgl
  subst hrs
  unfold xna at hx
  split at hx
  case isFalse => cases hx
  case isTrue hr3 =>
  obtain ⟨hr, hz1, hz2⟩ := hr3
  cases hx
  obtain ⟨L, hn, hm, hP, hD, hRO, hCL⟩ := id hV
  have hA : ∀ q, s.heap.size ≤ q → gA g q := fun q hq => Nat.le_trans (C.2.2.2.2.2.2.2.1).2.2.2 hq
  refine va_newq (C := "java/lang/Object") (N' := z.toNatClampNeg) C.1 C.2.1 C.2.2.2.1 (C.2.2.2.2.1 _ hw1) ((C.2.2.2.2.2.2.2.1).2.2.1.2.2.2.2.1) (C.2.2.2.2.2.2.2.1).1 hP hD hS hA hz1 rfl (by omega) hkc hks d (fun q cA H1 hK1 hP1 hD1 hS1 => ?_)
  have hcA : cA = gcs g 3 := by
    obtain ⟨k1, c1, -, -, -, e1⟩ := (hK1.2 5 (cA, .object "java/lang/Object") rfl).2
    obtain ⟨k2, c2, -, -, -, e2⟩ := ((C.2.2.2.2.2.2.2.1).1.2 3 (gcs g 3, .object "java/lang/Object") rfl).2
    exact Option.some.inj (Eq.trans (Eq.symm e1) e2)
  subst hcA
  have hee : ec g (mkc h r (20 + 3) z.toNatClampNeg) (va_up ρ r q) r = .inl (gcs g 3, (z.toNatClampNeg, .inr (.inr (.inr (.inr (fun _ => none)))))) := by
    rw [ec_refs (t := 3) mkc_eq.1 (by decide), mkc_eq.2.1, mkc_eq.2.2.2.2.2]
    rfl
  refine kk (mkc h r (20 + 3) z.toNatClampNeg) out hf p e s m args below meth c ρ0 (va_up ρ r q) H1 locs ls C (hag.grow hr (by omega)) (HV.grow hn hm hRO hCL hr (by unfold lvk; omega) ?_ ?_) hS1 ?_ |> (fun fin => by
    have e1 : (Value.ref r :: st).map (mv (va_up ρ r q)) = .ref q :: st.map (mv ρ) := by
      show mv _ (.ref r) :: st.map _ = _
      rw [st_eq (ρ := ρ) (fun a ha => up_ne hr (hlive a (rfs_st (List.mem_cons_of_mem _ ha))))]
      show Value.ref (va_up ρ r q r) :: _ = _
      rw [show va_up ρ r q r = q from if_pos rfl]
    rw [e1] at fin
    exact fin)
  · rw [hee]; exact hP1
  · rw [hee]; exact hD1
  · rw [lm_eq (ρ := ρ) (fun z hz a ha => up_ne hr (hlive a (rfs_lc hz ha)))]
    exact hl
theorem a_newq4 {z : Int32} {idx : Nat} {r : Nat} {f : AH → Option τ} (rs : List Nat) (hrs : rfs lc (.int z :: st) = rs) (d : decode mi.2.1 pc = .ok (.anewarray idx, 3)) (hw1 : Cond.classLink mi.1 idx "RainCover$Sheet" ∈ UW) (hkc : k + 1 ≤ mi.2.2.2.2.1.cells) (hks : n + z.toNatClampNeg ≤ mi.2.2.2.2.1.slots) (kk : ∀ h2, AO l g mi true h0 (pc + 3) lc (.ref r :: st) h2 (k + 1) (n + z.toNatClampNeg) rt (f h2)) : AO l g mi true h0 pc lc (.int z :: st) h k n rt ((gl h rs).bind fun _ => (xna h r 4 z).bind f) := by
  intro out ho p e s m args below meth c ρ0 ρ H locs ls C hag hV hS hl
  obtain ⟨u, hgl, ho⟩ := Option.bind_eq_some_iff.mp ho
  obtain ⟨h2, hx, hf⟩ := Option.bind_eq_some_iff.mp ho
  have hlive := gl_live hgl
  subst hrs
  unfold xna at hx
  split at hx
  case isFalse => cases hx
  case isTrue hr3 =>
  obtain ⟨hr, hz1, hz2⟩ := hr3
  cases hx
  obtain ⟨L, hn, hm, hP, hD, hRO, hCL⟩ := id hV
  have hA : ∀ q, s.heap.size ≤ q → gA g q := fun q hq => Nat.le_trans (C.2.2.2.2.2.2.2.1).2.2.2 hq
  refine va_newq (C := "RainCover$Sheet") (N' := z.toNatClampNeg) C.1 C.2.1 C.2.2.2.1 (C.2.2.2.2.1 _ hw1) ((C.2.2.2.2.2.2.2.1).2.2.1.2.2.2.2.2.1) (C.2.2.2.2.2.2.2.1).1 hP hD hS hA hz1 rfl (by omega) hkc hks d (fun q cA H1 hK1 hP1 hD1 hS1 => ?_)
  have hcA : cA = gcs g 4 := by
    obtain ⟨k1, c1, -, -, -, e1⟩ := (hK1.2 5 (cA, .object "RainCover$Sheet") rfl).2
    obtain ⟨k2, c2, -, -, -, e2⟩ := ((C.2.2.2.2.2.2.2.1).1.2 4 (gcs g 4, .object "RainCover$Sheet") rfl).2
    exact Option.some.inj (Eq.trans (Eq.symm e1) e2)
  subst hcA
  have hee : ec g (mkc h r (20 + 4) z.toNatClampNeg) (va_up ρ r q) r = .inl (gcs g 4, (z.toNatClampNeg, .inr (.inr (.inr (.inr (fun _ => none)))))) := by
    rw [ec_refs (t := 4) mkc_eq.1 (by decide), mkc_eq.2.1, mkc_eq.2.2.2.2.2]
    rfl
  refine kk (mkc h r (20 + 4) z.toNatClampNeg) out hf p e s m args below meth c ρ0 (va_up ρ r q) H1 locs ls C (hag.grow hr (by omega)) (HV.grow hn hm hRO hCL hr (by unfold lvk; omega) ?_ ?_) hS1 ?_ |> (fun fin => by
    have e1 : (Value.ref r :: st).map (mv (va_up ρ r q)) = .ref q :: st.map (mv ρ) := by
      show mv _ (.ref r) :: st.map _ = _
      rw [st_eq (ρ := ρ) (fun a ha => up_ne hr (hlive a (rfs_st (List.mem_cons_of_mem _ ha))))]
      show Value.ref (va_up ρ r q r) :: _ = _
      rw [show va_up ρ r q r = q from if_pos rfl]
    rw [e1] at fin
    exact fin)
  · rw [hee]; exact hP1
  · rw [hee]; exact hD1
  · rw [lm_eq (ρ := ρ) (fun z hz a ha => up_ne hr (hlive a (rfs_lc hz ha)))]
    exact hl
theorem a_widen (k2 n2 : Nat) (h1 : k ≤ k2) (h2 : n ≤ n2) (kk : AO l g mi al h0 pc lc st h k2 n2 rt o) : AO l g mi al h0 pc lc st h k n rt o :=
  fun out ho p e s m args below meth c ρ0 ρ H locs ls C hag hV hS hl => W.widen h1 h2 (kk out ho p e s m args below meth c ρ0 ρ H locs ls C hag hV hS hl)
end AMK
