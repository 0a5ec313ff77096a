/-! ===== heap reads and writes as partial functions ===== -/
def xgi (h : AH) (r c k : Nat) : Option Int32 := if kd h r = c + 1 then some (fi h r k) else none
def xgr (h : AH) (r c k : Nat) : Option Nat := if kd h r = c + 1 then fr h r k else none
def xgn (h : AH) (r c k : Nat) : Option (Option Nat) := if kd h r = c + 1 then some (fr h r k) else none
def xpi (h : AH) (r c k : Nat) (x : Int32) : Option AH := if kd h r = c + 1 then some (sfi h r k x) else none
def xpz (h : AH) (r c k : Nat) (x : Int32) : Option AH := if kd h r = c + 1 ∧ (x = 0 ∨ x = 1) then some (sfi h r k x) else none
def xpr (h : AH) (r c k : Nat) (x : Nat) : Option AH := if kd h r = c + 1 ∧ kd h x ≠ 0 then some (sfr h r k (some x)) else none
def xpn (h : AH) (r c k : Nat) : Option AH := if kd h r = c + 1 then some (sfr h r k none) else none
def xia (h : AH) (r : Nat) (j : Int32) : Option Int32 := if (kd h r = 20 ∨ kd h r = 30) ∧ ¬ (j < 0 ∨ ln h r ≤ j.toNatClampNeg) then some (ai h r j.toNatClampNeg) else none
def xis (h : AH) (r : Nat) (j x : Int32) : Option AH := if kd h r = 20 ∧ ¬ (j < 0 ∨ ln h r ≤ j.toNatClampNeg) then some (sai h r j.toNatClampNeg x) else none
def xba (h : AH) (r : Nat) (j : Int32) : Option Int32 := if (kd h r = 21 ∨ kd h r = 22 ∨ kd h r = 41) ∧ ¬ (j < 0 ∨ ln h r ≤ j.toNatClampNeg) then some (ai h r j.toNatClampNeg) else none
def xbs (h : AH) (r : Nat) (j x : Int32) : Option AH :=
  if kd h r = 21 ∧ ¬ (j < 0 ∨ ln h r ≤ j.toNatClampNeg) ∧ (x = 0 ∨ x = 1) then some (sai h r j.toNatClampNeg x)
  else if kd h r = 22 ∧ ¬ (j < 0 ∨ ln h r ≤ j.toNatClampNeg) then some (sai h r j.toNatClampNeg x.toInt8.toInt32) else none
def xaa (h : AH) (r : Nat) (j : Int32) : Option Nat := if (kd h r = 23 ∨ kd h r = 24) ∧ ¬ (j < 0 ∨ ln h r ≤ j.toNatClampNeg) then ar h r j.toNatClampNeg else none
def xal (h : AH) (r : Nat) : Option Int32 := if (20 ≤ kd h r ∧ kd h r ≤ 24) ∨ kd h r = 30 ∨ kd h r = 33 ∨ kd h r = 41 then some (nI (ln h r)) else none
/-! ===== what the world says of one cell; one cell written ===== -/
theorem nodup_at {L : List Nat} (hn : L.Nodup) {i j r : Nat} (hi : L[i]? = some r) (hj : L[j]? = some r) : i = j := by
  obtain ⟨h1, e1⟩ := List.getElem?_eq_some_iff.mp hi
  obtain ⟨h2, e2⟩ := List.getElem?_eq_some_iff.mp hj
  have hp := List.pairwise_iff_getElem.mp hn
  rcases Nat.lt_trichotomy i j with q | q | q
  · exact absurd (e1.trans e2.symm) (hp i j h1 h2 q)
  · exact q
  · exact absurd (e2.trans e1.symm) (hp j i h2 h1 q)
theorem set_map {α : Type} {F F' : Nat → α} {L : List Nat} {q r : Nat} (hn : L.Nodup) (hq : L[q]? = some r) (hF : ∀ j, j ∈ L → j ≠ r → F' j = F j) : (L.map F).set q (F' r) = L.map F' := by
  apply List.ext_getElem?
  intro i
  rw [List.getElem?_set, List.getElem?_map, List.length_map]
  have hlt : q < L.length := (List.getElem?_eq_some_iff.mp hq).1
  by_cases e : q = i
  · subst e
    rw [if_pos rfl, if_pos hlt, List.getElem?_map, hq]
    rfl
  · rw [if_neg e, List.getElem?_map]
    cases hi : L[i]? with
    | none => rfl
    | some j =>
      have hj : j ≠ r := fun ej => e (nodup_at hn hq (ej ▸ hi))
      show some (F j) = some (F' j)
      rw [hF j (List.mem_of_getElem? hi) hj]
theorem fvs_at {h : AH} {ρ : Nat → Nat} {r c k : Nat} (hk : k < nFd c) : (fvs h ρ r c)[k]? = some (fv h ρ r c k) := by
  unfold fvs
  rw [List.getElem?_map, List.getElem?_range hk]
  rfl
theorem fvs_set {h h' : AH} {ρ : Nat → Nat} {r c k : Nat} (hk : k < nFd c) (hF : ∀ j, j ≠ k → fv h' ρ r c j = fv h ρ r c j) : (fvs h ρ r c).set k (fv h' ρ r c k) = fvs h' ρ r c :=
  set_map List.nodup_range (List.getElem?_range hk) (fun j _ hj => hF j hj)
theorem ec_obj {g : GG} {h : AH} {ρ : Nat → Nat} {r c : Nat} (hk : kd h r = c + 1) (hc : c + 1 < 20) : ec g h ρ r = .inr (c, fvs h ρ r c) := by
  unfold ec
  rw [hk, if_pos hc, Nat.add_sub_cancel]
theorem ec_ints {g : GG} {h : AH} {ρ : Nat → Nat} {r t : Nat} (hk : kd h r = 20 + t) (ht : t < 3) : ec g h ρ r = .inl (gcs g t, (ln h r, .inl (ai h r))) := by
  unfold ec
  rw [hk, if_neg (by omega), if_pos (by omega), Nat.add_sub_cancel_left]
theorem ec_refs {g : GG} {h : AH} {ρ : Nat → Nat} {r t : Nat} (hk : kd h r = 20 + t) (ht : 3 ≤ t) : ec g h ρ r = .inl (gcs g t, (ln h r, .inr (.inr (.inr (.inr (fun j => (ar h r j).map ρ)))))) := by
  unfold ec
  rw [hk, if_neg (by omega), if_neg (by omega), Nat.add_sub_cancel_left]
theorem HV.in {g : GG} {ρ : Nat → Nat} {h : AH} {L : List Nat} (hm : ∀ r, r ∈ L ↔ lvk (kd h r)) {r : Nat} (hr : lvk (kd h r)) : ∃ q : Nat, L[q]? = some r ∧ (L.map (cel g h ρ))[q]? = some (ρ r, ec g h ρ r) := by
  obtain ⟨q, hq⟩ := List.getElem?_of_mem ((hm r).mpr hr)
  exact ⟨q, hq, by rw [List.getElem?_map, hq]; rfl⟩
/-- the world behind a write at r -/
theorem HV.put {g : GG} {ρ : Nat → Nat} {h h' : AH} {H1 : Heap} {L : List Nat} {q r : Nat} {e' : va_E} (hn : L.Nodup) (hm : ∀ r, r ∈ L ↔ lvk (kd h r)) (hq : L[q]? = some r) (hR : ROh g ρ h') (hCL : CL h') (hkd : kd h' = kd h)
    (he : ec g h' ρ r = e') (ho : ∀ j, j ≠ r → ec g h' ρ j = ec g h ρ j) (hP : va_P (gD g) vwCl ((L.map (cel g h ρ)).set q (ρ r, e')) H1) (hD : va_D (gA g) ((L.map (cel g h ρ)).set q (ρ r, e'))) : HV g ρ h' H1 := by
  have es : (L.map (cel g h ρ)).set q (ρ r, e') = L.map (cel g h' ρ) := by
    rw [← he]
    exact set_map (F := cel g h ρ) (F' := cel g h' ρ) hn hq (fun j _ hj => by unfold cel; rw [ho j hj])
  rw [es] at hP hD
  exact ⟨L, hn, fun r => by rw [hkd]; exact hm r, hP, hD, hR, hCL⟩
theorem up2_ne {α : Type} {f : Nat → Nat → α} {r k : Nat} {x : α} {j : Nat} (hj : j ≠ r) : up2 f r k x j = f j := by
  unfold up2 va_up
  rw [if_neg hj]
theorem up2_eq {α : Type} {f : Nat → Nat → α} {r k : Nat} {x : α} : up2 f r k x r = va_up (f r) k x := by
  unfold up2
  show (if r = r then _ else _) = _
  rw [if_pos rfl]
theorem CL.put {h h' : AH} (e1 : kd h' = kd h) (e2 : fr h' = fr h) (e3 : ar h' = ar h) (hC : CL h) : CL h' := by
  unfold CL
  rw [e1, e2, e3]
  exact hC
theorem up2_cases {α : Type} {f : Nat → Nat → α} {r k : Nat} {x : α} (j i : Nat) : up2 f r k x j i = x ∨ up2 f r k x j i = f j i := by
  unfold up2 va_up
  by_cases h : j = r
  · subst h
    by_cases h2 : i = k
    · left; simp [h2]
    · right; simp [h2]
  · right; simp [h]
theorem cl_fr {h : AH} {r k : Nat} {x : Option Nat} (hx : ∀ y, x = some y → kd h y ≠ 0) (hC : CL h) : CL (sfr h r k x) := by
  refine ⟨fun j i y hy => ?_, hC.2⟩
  rcases up2_cases (f := fr h) (r := r) (k := k) (x := x) j i with e | e
  · exact hx y (e.symm.trans hy)
  · exact hC.1 j i y (e.symm.trans hy)
theorem cl_ar {h : AH} {r k : Nat} {x : Option Nat} (hx : ∀ y, x = some y → kd h y ≠ 0) (hC : CL h) : CL (sar h r k x) := by
  refine ⟨hC.1, fun j i y hy => ?_⟩
  rcases up2_cases (f := ar h) (r := r) (k := k) (x := x) j i with e | e
  · exact hx y (e.symm.trans hy)
  · exact hC.2 j i y (e.symm.trans hy)
theorem ro_fi {g : GG} {ρ : Nat → Nat} {h : AH} {r k : Nat} {x : Int32} (hR : ROh g ρ h) : ROh g ρ (sfi h r k x) := hR
theorem ro_fr {g : GG} {ρ : Nat → Nat} {h : AH} {r k : Nat} {x : Option Nat} (hR : ROh g ρ h) : ROh g ρ (sfr h r k x) := hR
theorem ro_ar {g : GG} {ρ : Nat → Nat} {h : AH} {r k : Nat} {x : Option Nat} (hR : ROh g ρ h) : ROh g ρ (sar h r k x) := hR
theorem ro_ai {g : GG} {ρ : Nat → Nat} {h : AH} {r k : Nat} {x : Int32} (hl : lvk (kd h r)) (hR : ROh g ρ h) : ROh g ρ (sai h r k x) := by
  obtain ⟨r1, r2, r3, r4, r5, r6, r7, r8, r9⟩ := hR
  have ne : ∀ j, ¬ lvk (kd h j) → ai (sai h r k x) j = ai h j := fun j hj => up2_ne (fun e => hj (e ▸ hl))
  refine ⟨fun i hi => ?_, r2, r3, r4, r5, r6, r7, fun i hi => ?_, r9⟩
  · obtain ⟨h1, h2, h3, h4⟩ := r1 i hi
    exact ⟨h1, h2, h3, (ne _ (by rw [h2]; exact fun z => absurd z.2 (by decide))).trans h4⟩
  · obtain ⟨h1, h2, h3, h4⟩ := r8 i hi
    exact ⟨h1, h2, h3, (ne _ (by rw [h2]; exact fun z => absurd z.2 (by decide))).trans h4⟩
theorem ec_fi {g : GG} {ρ : Nat → Nat} {h : AH} {r k : Nat} {x : Int32} {j : Nat} (hj : j ≠ r) : ec g (sfi h r k x) ρ j = ec g h ρ j := by
  have e : fi (sfi h r k x) j = fi h j := up2_ne hj
  unfold ec fvs fv
  rw [e]
  rfl
theorem ec_fr {g : GG} {ρ : Nat → Nat} {h : AH} {r k : Nat} {x : Option Nat} {j : Nat} (hj : j ≠ r) : ec g (sfr h r k x) ρ j = ec g h ρ j := by
  have e : fr (sfr h r k x) j = fr h j := up2_ne hj
  unfold ec fvs fv
  rw [e]
  rfl
theorem ec_ai {g : GG} {ρ : Nat → Nat} {h : AH} {r k : Nat} {x : Int32} {j : Nat} (hj : j ≠ r) : ec g (sai h r k x) ρ j = ec g h ρ j := by
  have e : ai (sai h r k x) j = ai h j := up2_ne hj
  unfold ec
  rw [e]
  rfl
theorem ec_ar {g : GG} {ρ : Nat → Nat} {h : AH} {r k : Nat} {x : Option Nat} {j : Nat} (hj : j ≠ r) : ec g (sar h r k x) ρ j = ec g h ρ j := by
  have e : ar (sar h r k x) j = ar h j := up2_ne hj
  unfold ec
  rw [e]
  rfl
/-- what a class needs -/
def KC (c : Nat) (C : String) (T : u_T) (N : Nat) (ty : Nat → FieldType) : Prop :=
  vwCl[c]? = some (C, T, N) ∧ nFd c = N ∧ c + 1 < 20 ∧ (∀ w ∈ u_ws C T N, w ∈ UW) ∧ (∀ k, k < N → parseFieldDescriptor (T k).2.2.1 = some (ty k)) ∧ (∀ a, a < N → ∀ b, b < N → a ≠ b → (T a).2.1 ≠ (T b).2.1)
theorem ins_of {ws : List Cond} (ps : List Nat) (hp : ws = ps.filterMap (fun i => tables_1[i]?)) (hg : ws.all goodWord = true) : ∀ w ∈ ws, w ∈ UW := by
  intro w hw
  have h1 := List.all_eq_true.mp hg w hw
  rw [hp] at hw
  obtain ⟨i, -, hi⟩ := List.mem_filterMap.mp hw
  exact List.mem_filter.mpr ⟨List.mem_append_right _ (List.mem_of_getElem? hi), h1⟩
theorem in_tb {w : Cond} (i : Nat) (hi : tables_1[i]? = some w) (hg : goodWord w = true) : w ∈ UW := List.mem_filter.mpr ⟨List.mem_append_right _ (List.mem_of_getElem? hi), hg⟩
theorem in_pv {w : Cond} (i : Nat) (hi : (k2_sels lw_privs)[i]? = some w) (hg : goodWord w = true) : w ∈ UW := List.mem_filter.mpr ⟨List.mem_append_left _ (List.mem_of_getElem? hi), hg⟩
section AMEM
variable {τ : Type} {l : Launch} {g : GG} {mi : MI} {al : Bool} {h0 h : AH} {pc k n : Nat} {lc : List (Nat × Value)} {st : List Value} {rt : τ → Option Value × AH} {o : Option τ}
theorem AG.put {ρ0 ρ : Nat → Nat} {h h' : AH} (e : kd h' = kd h) (hag : AG al ρ0 h0 ρ h) : AG al ρ0 h0 ρ h' := by
  unfold AG at hag ⊢
  rw [e]
  exact hag

theorem a_geti {ci : Nat} {CN : String} {T : u_T} {N : Nat} {ty : Nat → FieldType} (kc : KC ci CN T N ty) (j : Nat) {r idx : Nat} {f : Int32 → Option τ} (d : decode mi.2.1 pc = .ok (.getfield idx, 3)) (hj : j < N) (hR : isR ci j = false) (hw : Cond.fieldLink mi.1 idx (T j).1 (T j).2.1 (T j).2.2.1 ∈ UW) (kk : ∀ x, AO l g mi al h0 (pc + 3) lc (.int x :: st) h k n rt (f x)) : AO l g mi al h0 pc lc (.ref r :: st) h k n rt ((xgi h r ci j).bind f) := by
  intro out ho p e s m args below meth c ρ0 ρ H locs ls C hag hV hS hl
  obtain ⟨x, hx, hf⟩ := Option.bind_eq_some_iff.mp ho
  obtain ⟨k1, k2, k3, k4, k5, k6⟩ := kc
  unfold xgi at hx
  by_cases hk : kd h r = ci + 1
  · rw [if_pos hk] at hx
    obtain ⟨L, hn, hm, hP, hD, hRO, hCL⟩ := id hV
    obtain ⟨q, hq, hc⟩ := HV.in (g := g) (ρ := ρ) hm (r := r) (by rw [hk]; exact ⟨by omega, by omega⟩)
    rw [ec_obj hk k3] at hc
    refine va_get C.1 C.2.1 (C.2.2.2.2.1) k4 C.2.2.2.1 C.2.2.2.2.2.2.2.1.1 hP q hc k1 j hj (C.2.2.2.2.1 _ hw) (fun _ h9 => h9) (v := mv ρ (.int x)) ?_ d (kk x out hf p e s m args below meth c ρ0 ρ H locs ls C hag hV hS hl)
    rw [fvs_at (by rw [k2]; exact hj)]
    cases hx
    unfold fv
    rw [if_neg (by rw [hR]; decide)]
    rfl
  · rw [if_neg hk] at hx; cases hx
theorem a_getr {ci : Nat} {CN : String} {T : u_T} {N : Nat} {ty : Nat → FieldType} (kc : KC ci CN T N ty) (j : Nat) {r idx : Nat} {f : Nat → Option τ} (d : decode mi.2.1 pc = .ok (.getfield idx, 3)) (hj : j < N) (hR : isR ci j = true) (hw : Cond.fieldLink mi.1 idx (T j).1 (T j).2.1 (T j).2.2.1 ∈ UW) (kk : ∀ x, AO l g mi al h0 (pc + 3) lc (.ref x :: st) h k n rt (f x)) : AO l g mi al h0 pc lc (.ref r :: st) h k n rt ((xgr h r ci j).bind f) := by
  intro out ho p e s m args below meth c ρ0 ρ H locs ls C hag hV hS hl
  obtain ⟨x, hx, hf⟩ := Option.bind_eq_some_iff.mp ho
  obtain ⟨k1, k2, k3, k4, k5, k6⟩ := kc
  unfold xgr at hx
  by_cases hk : kd h r = ci + 1
  · rw [if_pos hk] at hx
    obtain ⟨L, hn, hm, hP, hD, hRO, hCL⟩ := id hV
    obtain ⟨q, hq, hc⟩ := HV.in (g := g) (ρ := ρ) hm (r := r) (by rw [hk]; exact ⟨by omega, by omega⟩)
    rw [ec_obj hk k3] at hc
    refine va_get C.1 C.2.1 (C.2.2.2.2.1) k4 C.2.2.2.1 C.2.2.2.2.2.2.2.1.1 hP q hc k1 j hj (C.2.2.2.2.1 _ hw) (fun _ h9 => h9) (v := mv ρ (.ref x)) ?_ d (kk x out hf p e s m args below meth c ρ0 ρ H locs ls C hag hV hS hl)
    rw [fvs_at (by rw [k2]; exact hj)]
    unfold fv
    rw [if_pos hR, hx]
    rfl
  · rw [if_neg hk] at hx; cases hx
theorem a_getn {ci : Nat} {CN : String} {T : u_T} {N : Nat} {ty : Nat → FieldType} (kc : KC ci CN T N ty) (j : Nat) {r idx : Nat} {f : (Option Nat) → Option τ} (d : decode mi.2.1 pc = .ok (.getfield idx, 3)) (hj : j < N) (hR : isR ci j = true) (hw : Cond.fieldLink mi.1 idx (T j).1 (T j).2.1 (T j).2.2.1 ∈ UW) (kk : ∀ x, AO l g mi al h0 (pc + 3) lc (va_rf x :: st) h k n rt (f x)) : AO l g mi al h0 pc lc (.ref r :: st) h k n rt ((xgn h r ci j).bind f) := by
  intro out ho p e s m args below meth c ρ0 ρ H locs ls C hag hV hS hl
  obtain ⟨x, hx, hf⟩ := Option.bind_eq_some_iff.mp ho
  obtain ⟨k1, k2, k3, k4, k5, k6⟩ := kc
  unfold xgn at hx
  by_cases hk : kd h r = ci + 1
  · rw [if_pos hk] at hx
    obtain ⟨L, hn, hm, hP, hD, hRO, hCL⟩ := id hV
    obtain ⟨q, hq, hc⟩ := HV.in (g := g) (ρ := ρ) hm (r := r) (by rw [hk]; exact ⟨by omega, by omega⟩)
    rw [ec_obj hk k3] at hc
    refine va_get C.1 C.2.1 (C.2.2.2.2.1) k4 C.2.2.2.1 C.2.2.2.2.2.2.2.1.1 hP q hc k1 j hj (C.2.2.2.2.1 _ hw) (fun _ h9 => h9) (v := mv ρ (va_rf x)) ?_ d (kk x out hf p e s m args below meth c ρ0 ρ H locs ls C hag hV hS hl)
    rw [fvs_at (by rw [k2]; exact hj)]
    cases hx
    unfold fv
    rw [if_pos hR, mv_rf]
  · rw [if_neg hk] at hx; cases hx
theorem a_puti {ci : Nat} {CN : String} {T : u_T} {N : Nat} {ty : Nat → FieldType} (kc : KC ci CN T N ty) (j : Nat) {r idx : Nat} {x : Int32} {f : AH → Option τ} (d : decode mi.2.1 pc = .ok (.putfield idx, 3)) (hj : j < N) (hR : isR ci j = false) (hw : Cond.fieldLink mi.1 idx (T j).1 (T j).2.1 (T j).2.2.1 ∈ UW) (hty : ty j = .int) (hfin : (T j).2.2.2 = false) (kk : ∀ h2, AO l g mi al h0 (pc + 3) lc st h2 k n rt (f h2)) : AO l g mi al h0 pc lc (.int x :: .ref r :: st) h k n rt ((xpi h r ci j x).bind f) := by
  intro out ho p e s m args below meth c ρ0 ρ H locs ls C hag hV hS hl
  obtain ⟨h', hx, hf⟩ := Option.bind_eq_some_iff.mp ho
  obtain ⟨k1, k2, k3, k4, k5, k6⟩ := kc
  unfold xpi at hx
  split at hx
  case isTrue hk0 =>
    cases hx
    have hk := hk0
    have hn1 : narrow (ty j) (.int x) = .int x := by rw [hty]; rfl
    have hn2 : fits (ty j) (.int x) = true := by rw [hty]; rfl
    obtain ⟨L, hn, hm, hP, hD, hRO, hCL⟩ := id hV
    obtain ⟨q, hq, hc⟩ := HV.in (g := g) (ρ := ρ) hm (r := r) (by rw [hk]; exact ⟨by omega, by omega⟩)
    rw [ec_obj hk k3] at hc
    refine va_put C.1 C.2.1 (C.2.2.2.2.1) k4 ty k5 k6 C.2.2.2.1 C.2.2.2.2.2.2.2.1.1 hP hD hS q hc k1 j hj (C.2.2.2.2.1 _ hw) (fun _ h9 => h9) hfin (ty := ty j) (k5 j hj) hn1 hn2 (by simp [fvs, k2, hj]) d (fun H1 locs1 hP1 hD1 hS1 => ?_)
    refine kk (sfi h r j x) out hf p e s m args below meth c ρ0 ρ H1 locs1 ls C (hag.put rfl) (HV.put (h' := sfi h r j x) hn hm hq (ro_fi hRO) (CL.put rfl rfl rfl hCL) rfl ?_ (fun j hj => ec_fi hj) hP1 hD1) hS1 hl
    rw [ec_obj (c := ci) (show kd (sfi h r j x) r = ci + 1 from hk) k3]
    refine congrArg (fun z => Sum.inr (ci, z)) ?_
    refine (fvs_set (h := h) (by rw [k2]; exact hj) (fun i hi => ?_)).symm.trans ?_
    · unfold fv
      rw [show fi (sfi h r j x) r = va_up (fi h r) j x from up2_eq, show va_up (fi h r) j x i = fi h r i from if_neg hi]
      rfl
    · congr 1
      unfold fv
      rw [if_neg (by rw [hR]; decide), show fi (sfi h r j x) r = va_up (fi h r) j x from up2_eq, show va_up (fi h r) j x j = x from if_pos rfl]; rfl
  case isFalse hk => cases hx
theorem a_putz {ci : Nat} {CN : String} {T : u_T} {N : Nat} {ty : Nat → FieldType} (kc : KC ci CN T N ty) (j : Nat) {r idx : Nat} {x : Int32} {f : AH → Option τ} (d : decode mi.2.1 pc = .ok (.putfield idx, 3)) (hj : j < N) (hR : isR ci j = false) (hw : Cond.fieldLink mi.1 idx (T j).1 (T j).2.1 (T j).2.2.1 ∈ UW) (hty : ty j = .boolean) (hfin : (T j).2.2.2 = false) (kk : ∀ h2, AO l g mi al h0 (pc + 3) lc st h2 k n rt (f h2)) : AO l g mi al h0 pc lc (.int x :: .ref r :: st) h k n rt ((xpz h r ci j x).bind f) := by
  intro out ho p e s m args below meth c ρ0 ρ H locs ls C hag hV hS hl
  obtain ⟨h', hx, hf⟩ := Option.bind_eq_some_iff.mp ho
  obtain ⟨k1, k2, k3, k4, k5, k6⟩ := kc
  unfold xpz at hx
  split at hx
  case isTrue hk0 =>
    cases hx
    have hk := hk0.1
    have hn1 : narrow (ty j) (.int x) = .int x := by rw [hty]; rcases hk0.2 with rfl | rfl <;> rfl
    have hn2 : fits (ty j) (.int x) = true := by rw [hty]; rcases hk0.2 with rfl | rfl <;> rfl
    obtain ⟨L, hn, hm, hP, hD, hRO, hCL⟩ := id hV
    obtain ⟨q, hq, hc⟩ := HV.in (g := g) (ρ := ρ) hm (r := r) (by rw [hk]; exact ⟨by omega, by omega⟩)
    rw [ec_obj hk k3] at hc
    refine va_put C.1 C.2.1 (C.2.2.2.2.1) k4 ty k5 k6 C.2.2.2.1 C.2.2.2.2.2.2.2.1.1 hP hD hS q hc k1 j hj (C.2.2.2.2.1 _ hw) (fun _ h9 => h9) hfin (ty := ty j) (k5 j hj) hn1 hn2 (by simp [fvs, k2, hj]) d (fun H1 locs1 hP1 hD1 hS1 => ?_)
    refine kk (sfi h r j x) out hf p e s m args below meth c ρ0 ρ H1 locs1 ls C (hag.put rfl) (HV.put (h' := sfi h r j x) hn hm hq (ro_fi hRO) (CL.put rfl rfl rfl hCL) rfl ?_ (fun j hj => ec_fi hj) hP1 hD1) hS1 hl
    rw [ec_obj (c := ci) (show kd (sfi h r j x) r = ci + 1 from hk) k3]
    refine congrArg (fun z => Sum.inr (ci, z)) ?_
    refine (fvs_set (h := h) (by rw [k2]; exact hj) (fun i hi => ?_)).symm.trans ?_
    · unfold fv
      rw [show fi (sfi h r j x) r = va_up (fi h r) j x from up2_eq, show va_up (fi h r) j x i = fi h r i from if_neg hi]
      rfl
    · congr 1
      unfold fv
      rw [if_neg (by rw [hR]; decide), show fi (sfi h r j x) r = va_up (fi h r) j x from up2_eq, show va_up (fi h r) j x j = x from if_pos rfl]; rfl
  case isFalse hk => cases hx
theorem a_putr {ci : Nat} {CN : String} {T : u_T} {N : Nat} {ty : Nat → FieldType} (kc : KC ci CN T N ty) (j : Nat) {r idx : Nat} {x : Nat} {f : AH → Option τ} (d : decode mi.2.1 pc = .ok (.putfield idx, 3)) (hj : j < N) (hR : isR ci j = true) (hw : Cond.fieldLink mi.1 idx (T j).1 (T j).2.1 (T j).2.2.1 ∈ UW) (hty : ∀ a, narrow (ty j) (.ref a) = .ref a ∧ fits (ty j) (.ref a) = true) (hfin : (T j).2.2.2 = false) (kk : ∀ h2, AO l g mi al h0 (pc + 3) lc st h2 k n rt (f h2)) : AO l g mi al h0 pc lc (.ref x :: .ref r :: st) h k n rt ((xpr h r ci j x).bind f) := by
  intro out ho p e s m args below meth c ρ0 ρ H locs ls C hag hV hS hl
  obtain ⟨h', hx, hf⟩ := Option.bind_eq_some_iff.mp ho
  obtain ⟨k1, k2, k3, k4, k5, k6⟩ := kc
  unfold xpr at hx
  split at hx
  case isTrue hk0 =>
    cases hx
    have hk := hk0.1
    have hn1 := (hty (ρ x)).1
    have hn2 := (hty (ρ x)).2
    obtain ⟨L, hn, hm, hP, hD, hRO, hCL⟩ := id hV
    obtain ⟨q, hq, hc⟩ := HV.in (g := g) (ρ := ρ) hm (r := r) (by rw [hk]; exact ⟨by omega, by omega⟩)
    rw [ec_obj hk k3] at hc
    refine va_put C.1 C.2.1 (C.2.2.2.2.1) k4 ty k5 k6 C.2.2.2.1 C.2.2.2.2.2.2.2.1.1 hP hD hS q hc k1 j hj (C.2.2.2.2.1 _ hw) (fun _ h9 => h9) hfin (ty := ty j) (k5 j hj) hn1 hn2 (by simp [fvs, k2, hj]) d (fun H1 locs1 hP1 hD1 hS1 => ?_)
    refine kk (sfr h r j (some x)) out hf p e s m args below meth c ρ0 ρ H1 locs1 ls C (hag.put rfl) (HV.put (h' := sfr h r j (some x)) hn hm hq (ro_fr hRO) (cl_fr (fun y hy => by cases hy; exact hk0.2) hCL) rfl ?_ (fun j hj => ec_fr hj) hP1 hD1) hS1 hl
    rw [ec_obj (c := ci) (show kd (sfr h r j (some x)) r = ci + 1 from hk) k3]
    refine congrArg (fun z => Sum.inr (ci, z)) ?_
    refine (fvs_set (h := h) (by rw [k2]; exact hj) (fun i hi => ?_)).symm.trans ?_
    · unfold fv
      rw [show fr (sfr h r j (some x)) r = va_up (fr h r) j (some x) from up2_eq, show va_up (fr h r) j (some x) i = fr h r i from if_neg hi]
      rfl
    · congr 1
      unfold fv
      rw [if_pos hR, show fr (sfr h r j (some x)) r = va_up (fr h r) j (some x) from up2_eq, show va_up (fr h r) j (some x) j = (some x) from if_pos rfl]; rfl
  case isFalse hk => cases hx
theorem a_putiF {ci : Nat} {CN : String} {T : u_T} {N : Nat} {ty : Nat → FieldType} (kc : KC ci CN T N ty) (j : Nat) {r idx : Nat} {x : Int32} {f : AH → Option τ} (d : decode mi.2.1 pc = .ok (.putfield idx, 3)) (hj : j < N) (hR : isR ci j = false) (hw : Cond.fieldLink mi.1 idx (T j).1 (T j).2.1 (T j).2.2.1 ∈ UW) (hty : ty j = .int) (hfin : (T j).2.2.2 = true) (hini : mi.2.2.2.2.2.2.2 = true) (hdc : (T j).1 = mi.1) (kk : ∀ h2, AO l g mi al h0 (pc + 3) lc st h2 k n rt (f h2)) : AO l g mi al h0 pc lc (.int x :: .ref r :: st) h k n rt ((xpi h r ci j x).bind f) := by
  intro out ho p e s m args below meth c ρ0 ρ H locs ls C hag hV hS hl
  obtain ⟨h', hx, hf⟩ := Option.bind_eq_some_iff.mp ho
  obtain ⟨k1, k2, k3, k4, k5, k6⟩ := kc
  unfold xpi at hx
  split at hx
  case isTrue hk0 =>
    cases hx
    have hk := hk0
    have hn1 : narrow (ty j) (.int x) = .int x := by rw [hty]; rfl
    have hn2 : fits (ty j) (.int x) = true := by rw [hty]; rfl
    obtain ⟨L, hn, hm, hP, hD, hRO, hCL⟩ := id hV
    obtain ⟨q, hq, hc⟩ := HV.in (g := g) (ρ := ρ) hm (r := r) (by rw [hk]; exact ⟨by omega, by omega⟩)
    rw [ec_obj hk k3] at hc
    refine va_putF C.1 C.2.1 (C.2.2.2.2.1) k4 ty k5 k6 C.2.2.2.1 C.2.2.2.2.2.2.2.1.1 hP hD hS q hc k1 j hj (C.2.2.2.2.1 _ hw) (fun _ h9 => h9) hfin (C.2.2.2.2.2.2.2.2 hini) hdc (ty := ty j) (k5 j hj) hn1 hn2 (by simp [fvs, k2, hj]) d (fun H1 locs1 hP1 hD1 hS1 => ?_)
    refine kk (sfi h r j x) out hf p e s m args below meth c ρ0 ρ H1 locs1 ls C (hag.put rfl) (HV.put (h' := sfi h r j x) hn hm hq (ro_fi hRO) (CL.put rfl rfl rfl hCL) rfl ?_ (fun j hj => ec_fi hj) hP1 hD1) hS1 hl
    rw [ec_obj (c := ci) (show kd (sfi h r j x) r = ci + 1 from hk) k3]
    refine congrArg (fun z => Sum.inr (ci, z)) ?_
    refine (fvs_set (h := h) (by rw [k2]; exact hj) (fun i hi => ?_)).symm.trans ?_
    · unfold fv
      rw [show fi (sfi h r j x) r = va_up (fi h r) j x from up2_eq, show va_up (fi h r) j x i = fi h r i from if_neg hi]
      rfl
    · congr 1
      unfold fv
      rw [if_neg (by rw [hR]; decide), show fi (sfi h r j x) r = va_up (fi h r) j x from up2_eq, show va_up (fi h r) j x j = x from if_pos rfl]; rfl
  case isFalse hk => cases hx
theorem a_putzF {ci : Nat} {CN : String} {T : u_T} {N : Nat} {ty : Nat → FieldType} (kc : KC ci CN T N ty) (j : Nat) {r idx : Nat} {x : Int32} {f : AH → Option τ} (d : decode mi.2.1 pc = .ok (.putfield idx, 3)) (hj : j < N) (hR : isR ci j = false) (hw : Cond.fieldLink mi.1 idx (T j).1 (T j).2.1 (T j).2.2.1 ∈ UW) (hty : ty j = .boolean) (hfin : (T j).2.2.2 = true) (hini : mi.2.2.2.2.2.2.2 = true) (hdc : (T j).1 = mi.1) (kk : ∀ h2, AO l g mi al h0 (pc + 3) lc st h2 k n rt (f h2)) : AO l g mi al h0 pc lc (.int x :: .ref r :: st) h k n rt ((xpz h r ci j x).bind f) := by
  intro out ho p e s m args below meth c ρ0 ρ H locs ls C hag hV hS hl
  obtain ⟨h', hx, hf⟩ := Option.bind_eq_some_iff.mp ho
  obtain ⟨k1, k2, k3, k4, k5, k6⟩ := kc
  unfold xpz at hx
  split at hx
  case isTrue hk0 =>
    cases hx
    have hk := hk0.1
    have hn1 : narrow (ty j) (.int x) = .int x := by rw [hty]; rcases hk0.2 with rfl | rfl <;> rfl
    have hn2 : fits (ty j) (.int x) = true := by rw [hty]; rcases hk0.2 with rfl | rfl <;> rfl
    obtain ⟨L, hn, hm, hP, hD, hRO, hCL⟩ := id hV
    obtain ⟨q, hq, hc⟩ := HV.in (g := g) (ρ := ρ) hm (r := r) (by rw [hk]; exact ⟨by omega, by omega⟩)
    rw [ec_obj hk k3] at hc
    refine va_putF C.1 C.2.1 (C.2.2.2.2.1) k4 ty k5 k6 C.2.2.2.1 C.2.2.2.2.2.2.2.1.1 hP hD hS q hc k1 j hj (C.2.2.2.2.1 _ hw) (fun _ h9 => h9) hfin (C.2.2.2.2.2.2.2.2 hini) hdc (ty := ty j) (k5 j hj) hn1 hn2 (by simp [fvs, k2, hj]) d (fun H1 locs1 hP1 hD1 hS1 => ?_)
    refine kk (sfi h r j x) out hf p e s m args below meth c ρ0 ρ H1 locs1 ls C (hag.put rfl) (HV.put (h' := sfi h r j x) hn hm hq (ro_fi hRO) (CL.put rfl rfl rfl hCL) rfl ?_ (fun j hj => ec_fi hj) hP1 hD1) hS1 hl
    rw [ec_obj (c := ci) (show kd (sfi h r j x) r = ci + 1 from hk) k3]
    refine congrArg (fun z => Sum.inr (ci, z)) ?_
    refine (fvs_set (h := h) (by rw [k2]; exact hj) (fun i hi => ?_)).symm.trans ?_
    · unfold fv
      rw [show fi (sfi h r j x) r = va_up (fi h r) j x from up2_eq, show va_up (fi h r) j x i = fi h r i from if_neg hi]
      rfl
    · congr 1
      unfold fv
      rw [if_neg (by rw [hR]; decide), show fi (sfi h r j x) r = va_up (fi h r) j x from up2_eq, show va_up (fi h r) j x j = x from if_pos rfl]; rfl
  case isFalse hk => cases hx
theorem a_putrF {ci : Nat} {CN : String} {T : u_T} {N : Nat} {ty : Nat → FieldType} (kc : KC ci CN T N ty) (j : Nat) {r idx : Nat} {x : Nat} {f : AH → Option τ} (d : decode mi.2.1 pc = .ok (.putfield idx, 3)) (hj : j < N) (hR : isR ci j = true) (hw : Cond.fieldLink mi.1 idx (T j).1 (T j).2.1 (T j).2.2.1 ∈ UW) (hty : ∀ a, narrow (ty j) (.ref a) = .ref a ∧ fits (ty j) (.ref a) = true) (hfin : (T j).2.2.2 = true) (hini : mi.2.2.2.2.2.2.2 = true) (hdc : (T j).1 = mi.1) (kk : ∀ h2, AO l g mi al h0 (pc + 3) lc st h2 k n rt (f h2)) : AO l g mi al h0 pc lc (.ref x :: .ref r :: st) h k n rt ((xpr h r ci j x).bind f) := by
  intro out ho p e s m args below meth c ρ0 ρ H locs ls C hag hV hS hl
  obtain ⟨h', hx, hf⟩ := Option.bind_eq_some_iff.mp ho
  obtain ⟨k1, k2, k3, k4, k5, k6⟩ := kc
  unfold xpr at hx
  split at hx
  case isTrue hk0 =>
    cases hx
    have hk := hk0.1
    have hn1 := (hty (ρ x)).1
    have hn2 := (hty (ρ x)).2
    obtain ⟨L, hn, hm, hP, hD, hRO, hCL⟩ := id hV
    obtain ⟨q, hq, hc⟩ := HV.in (g := g) (ρ := ρ) hm (r := r) (by rw [hk]; exact ⟨by omega, by omega⟩)
    rw [ec_obj hk k3] at hc
    refine va_putF C.1 C.2.1 (C.2.2.2.2.1) k4 ty k5 k6 C.2.2.2.1 C.2.2.2.2.2.2.2.1.1 hP hD hS q hc k1 j hj (C.2.2.2.2.1 _ hw) (fun _ h9 => h9) hfin (C.2.2.2.2.2.2.2.2 hini) hdc (ty := ty j) (k5 j hj) hn1 hn2 (by simp [fvs, k2, hj]) d (fun H1 locs1 hP1 hD1 hS1 => ?_)
    refine kk (sfr h r j (some x)) out hf p e s m args below meth c ρ0 ρ H1 locs1 ls C (hag.put rfl) (HV.put (h' := sfr h r j (some x)) hn hm hq (ro_fr hRO) (cl_fr (fun y hy => by cases hy; exact hk0.2) hCL) rfl ?_ (fun j hj => ec_fr hj) hP1 hD1) hS1 hl
    rw [ec_obj (c := ci) (show kd (sfr h r j (some x)) r = ci + 1 from hk) k3]
    refine congrArg (fun z => Sum.inr (ci, z)) ?_
    refine (fvs_set (h := h) (by rw [k2]; exact hj) (fun i hi => ?_)).symm.trans ?_
    · unfold fv
      rw [show fr (sfr h r j (some x)) r = va_up (fr h r) j (some x) from up2_eq, show va_up (fr h r) j (some x) i = fr h r i from if_neg hi]
      rfl
    · congr 1
      unfold fv
      rw [if_pos hR, show fr (sfr h r j (some x)) r = va_up (fr h r) j (some x) from up2_eq, show va_up (fr h r) j (some x) j = (some x) from if_pos rfl]; rfl
  case isFalse hk => cases hx
theorem a_putn {ci : Nat} {CN : String} {T : u_T} {N : Nat} {ty : Nat → FieldType} (kc : KC ci CN T N ty) (j : Nat) {r idx : Nat} {x : Unit} {f : AH → Option τ} (d : decode mi.2.1 pc = .ok (.putfield idx, 3)) (hj : j < N) (hR : isR ci j = true) (hw : Cond.fieldLink mi.1 idx (T j).1 (T j).2.1 (T j).2.2.1 ∈ UW) (hty : narrow (ty j) .null = .null ∧ fits (ty j) .null = true) (hfin : (T j).2.2.2 = false) (kk : ∀ h2, AO l g mi al h0 (pc + 3) lc st h2 k n rt (f h2)) : AO l g mi al h0 pc lc (.null :: .ref r :: st) h k n rt ((xpn h r ci j ).bind f) := by
  intro out ho p e s m args below meth c ρ0 ρ H locs ls C hag hV hS hl
  obtain ⟨h', hx, hf⟩ := Option.bind_eq_some_iff.mp ho
  obtain ⟨k1, k2, k3, k4, k5, k6⟩ := kc
  unfold xpn at hx
  split at hx
  case isTrue hk0 =>
    cases hx
    have hk := hk0
    have hn1 := hty.1
    have hn2 := hty.2
    obtain ⟨L, hn, hm, hP, hD, hRO, hCL⟩ := id hV
    obtain ⟨q, hq, hc⟩ := HV.in (g := g) (ρ := ρ) hm (r := r) (by rw [hk]; exact ⟨by omega, by omega⟩)
    rw [ec_obj hk k3] at hc
    refine va_put C.1 C.2.1 (C.2.2.2.2.1) k4 ty k5 k6 C.2.2.2.1 C.2.2.2.2.2.2.2.1.1 hP hD hS q hc k1 j hj (C.2.2.2.2.1 _ hw) (fun _ h9 => h9) hfin (ty := ty j) (k5 j hj) hn1 hn2 (by simp [fvs, k2, hj]) d (fun H1 locs1 hP1 hD1 hS1 => ?_)
    refine kk (sfr h r j none) out hf p e s m args below meth c ρ0 ρ H1 locs1 ls C (hag.put rfl) (HV.put (h' := sfr h r j none) hn hm hq (ro_fr hRO) (cl_fr (fun y hy => by cases hy) hCL) rfl ?_ (fun j hj => ec_fr hj) hP1 hD1) hS1 hl
    rw [ec_obj (c := ci) (show kd (sfr h r j none) r = ci + 1 from hk) k3]
    refine congrArg (fun z => Sum.inr (ci, z)) ?_
    refine (fvs_set (h := h) (by rw [k2]; exact hj) (fun i hi => ?_)).symm.trans ?_
    · unfold fv
      rw [show fr (sfr h r j none) r = va_up (fr h r) j none from up2_eq, show va_up (fr h r) j none i = fr h r i from if_neg hi]
      rfl
    · congr 1
      unfold fv
      rw [if_pos hR, show fr (sfr h r j none) r = va_up (fr h r) j none from up2_eq, show va_up (fr h r) j none j = none from if_pos rfl]; rfl
  case isFalse hk => cases hx
end AMEM
