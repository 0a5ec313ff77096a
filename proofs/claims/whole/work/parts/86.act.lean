/-! ===== public: act ===== -/
section
variable {L N : Nat} {xs : Nat → Int32} {h h' h0 : AH} {σ σ' : SG} {tr : Nat → Nat} {u n j c : Nat}
theorem CS.act (C : CS h σ tr u) (W : CT σ) (e1 : kd h' = kd h) (e2 : ln h' = ln h) (e5 : ar h' = ar h) (er : ∀ r k, ¬ (r = 1 ∧ k = 15) → fr h' r k = fr h r k) (ef : ∀ r k, ¬ (360 ≤ r ∧ r < 384 ∧ k = 3) → fi h' r k = fi h r k) (ea : ∀ r, ¬ (390 ≤ r ∧ r < 414) → ai h' r = ai h r) (g1 : ∀ k, k ≠ 64 → σ'.1 k = σ.1 k) (g2 : ∀ k, k ≠ 65 → σ'.2 k = σ.2 k) (ac : AC h' σ') : CS h' σ' tr u := by
  obtain ⟨⟨k1, k2, k3, k4⟩, ⟨s1, s2, s3, s4, s5⟩, ⟨d1, d2, d3, d4, d5⟩, ob, cr, -, tt, tp, tm, l1, l2, l3⟩ := C
  have hF := W.f
  have cN : ∀ k, k ≠ 64 → cn σ' k = cn σ k := fun k hk => by unfold cn; rw [g1 k hk]
  have cT : ∀ k, k ≠ 64 → ct σ' k = ct σ k := fun k hk => by unfold ct; rw [cN k hk]
  have erow : ∀ r, r ≠ 1 → fr h' r = fr h r := fun r hr => funext (fun k => er r k (fun z => hr z.1))
  have frow : ∀ r, r < 360 ∨ 384 ≤ r → fi h' r = fi h r := fun r hr => funext (fun k => ef r k (by omega))
  have tfr : ∀ q ∈ cfr, ¬ (q.1 = 1 ∧ q.2.1 = 15) := by decide
  have tI : ∀ q ∈ dI, q.1 < 300 ∧ q.2.2 ≠ 64 := by decide
  have tC : ∀ q ∈ dC, q.1 < 300 := by decide
  have tF : ∀ q ∈ dF, q.1 + q.2.2.2.2 ≤ 360 ∧ q.2.2.1 ≠ 65 ∧ q.2.2.2.1 ≠ 64 := by decide
  have tA : ∀ q ∈ dA, q.1 < 300 ∧ q.2.2.2.1 ≠ 65 := by decide
  have tB : ∀ q ∈ dB, q.1 + q.2.2.2.2 ≤ 390 ∧ q.2.2.1 ≠ 65 ∧ q.2.2.2.1 ≠ 64 := by decide
  have tO : ∀ q ∈ oB, q.2.1 ≠ 64 := by decide
  have lz : ∀ li m el, 10 ≤ li → LZ h li m el → LZ h' li m el := by
    intro li m el hl Z
    unfold LZ
    rw [e1, e2, e5, erow li (by omega)]
    exact Z
  refine ⟨⟨fun q hq => ?_, by rw [e1]; exact k2, by rw [e2]; exact k3, by rw [e5]; exact k4⟩, ⟨?_, ?_, ?_, ?_, ?_⟩, ⟨fun q hq => ?_, fun q hq => ?_, fun q hq i hi => ?_, fun q hq i hi => ?_, fun q hq i hi i' hi' => ?_⟩, fun q hq => ?_, ?_, ac, ?_, ?_, ?_, ?_, ?_, ?_⟩
  · rw [er _ _ (tfr q hq)]; exact k1 q hq
  · rw [e1, e2, ea _ (by omega)]; exact s1
  · rw [e1, e2, ea _ (by omega)]; exact s2
  · intro i hi; rw [e1, e2, ea _ (by omega)]; exact s3 i hi
  · rw [e1, e2]; exact s4
  · rw [e1]; exact s5
  · have t := tI q hq
    rw [frow _ (by omega), g1 _ t.2]; exact d1 q hq
  · have t := tC q hq
    rw [frow _ (by omega)]; exact d2 q hq
  · have t := tF q hq
    rw [cT _ t.2.2] at hi
    have hm := Nat.lt_of_lt_of_le hi (W.F q hq)
    rw [frow _ (by omega), g2 _ t.2.1]; exact d3 q hq i hi
  · have t := tA q hq
    rw [ea _ (by omega), g2 _ t.2]; exact d4 q hq i hi
  · have t := tB q hq
    rw [cT _ t.2.2] at hi
    have hm := Nat.lt_of_lt_of_le hi (W.B q hq)
    rw [ea _ (by omega), g2 _ t.2.1]; exact d5 q hq i hi i' hi'
  · rw [cT _ (tO q hq), e1]; exact ob q hq
  · unfold CR
    rw [cN 26 (by decide)]
    refine ⟨fun i hi => ?_, by rw [e1]; exact cr.2⟩
    rw [e1, e2, erow _ (by omega), erow _ (by omega), ef _ _ (by omega), ef _ _ (by omega), ef _ _ (by omega), g2 29 (by decide), g2 30 (by decide)]
    exact cr.1 i hi
  · have hcix : ∀ i, cix σ' i = cix σ i := fun i => by unfold cix; rw [g2 8 (by decide), g2 9 (by decide)]
    have hlN : ∀ k c, lN_ σ' k c = lN_ σ k c := by
      intro k
      induction k with
      | zero => intro c; rfl
      | succ k ih => intro c; unfold lN_; rw [hcix, ih]
    unfold TT
    rw [ea 30 (by omega), ea 31 (by omega), ea 32 (by omega), cN 7 (by decide), g2 10 (by decide)]
    exact ⟨fun c hc => by rw [hlN]; exact tt.1 c hc, fun n hn => by rw [hlN, hcix]; exact tt.2 n hn⟩
  · unfold TP; rw [ea 33 (by omega), g2 62 (by decide)]; exact tp
  · unfold TM
    rw [cN 13 (by decide)]
    refine ⟨lz 11 _ _ (by omega) tm.1, fun t ht => ⟨(tm.2.1 t ht).1, ?_⟩, by unfold TU; rw [e1]; exact tm.2.2⟩
    have e := (tm.2.1 t ht).2
    unfold TM1 cs at e ⊢
    rw [e1, e2, erow (1000 + 8 * tr t) (by omega), frow (1000 + 8 * tr t) (by omega), ea (1000 + 8 * tr t + 1) (by omega), ea (1000 + 8 * tr t + 2) (by omega), ea (1000 + 8 * tr t + 3) (by omega), ea (1000 + 8 * tr t + 4) (by omega), ea (1000 + 8 * tr t + 5) (by omega), g2 14 (by decide), g2 15 (by decide), g2 16 (by decide), g2 17 (by decide), g2 18 (by decide), g2 19 (by decide), g2 20 (by decide), g2 21 (by decide), g2 22 (by decide), g2 23 (by decide), g2 24 (by decide)]
    exact e
  · rw [cN 0 (by decide)]; exact lz 10 _ _ (by omega) l1
  · rw [cN 26 (by decide)]; exact lz 12 _ _ (by omega) l2
  · rw [cN 46 (by decide)]; exact lz 13 _ _ (by omega) l3
/-- the class's trace: m bodies, f -/
def KA (h0 : AH) (j : Nat) (h : AH) (m : Nat) (f : Nat → Int32) : Prop := (kd h = kd h0 ∧ ln h = ln h0 ∧ fr h = fr h0 ∧ ar h = ar h0) ∧ (∀ r k, ¬ (r = 360 + j ∧ k = 3) → fi h r k = fi h0 r k) ∧ fi h (360 + j) 3 = nI m ∧ (∀ r, r ≠ 390 + j → ai h r = ai h0 r) ∧ ∀ i, i < m → ai h (390 + j) i = f i
def kB (σ : SG) (A : Nat → Int32) (x : Int32) : SG := (va_up σ.1 64 x, fun k => if k = 65 then A else σ.2 k)
theorem kB1 {A : Nat → Int32} {x : Int32} : (kB σ A x).1 64 = x := rfl
theorem kB2 {A : Nat → Int32} {x : Int32} {k : Nat} (hk : k ≠ 65) : (kB σ A x).2 k = σ.2 k := if_neg hk
def KB (σ : SG) (h : AH) (m : Nat) (f : Nat → Int32) : Prop := ∃ A, RS h (kB σ A (nI m)) ∧ ∀ i, i < m → A i = f i
def FX (h0 : AH) (σ : SG) (j c : Nat) : Prop := (kd h0 (360 + j) = crK (nI c) ∧ c < 4 ∧ j < 24) ∧ fr h0 (360 + j) 2 = some (390 + j) ∧ kd h0 (390 + j) = 20 ∧ ln h0 (390 + j) = 20 ∧ fi h0 (360 + j) 0 = nI j ∧ fi h0 (360 + j) 1 = σ.2 30 j ∧ σ.2 29 j = nI c
theorem FX.cr (X : FX h0 σ j c) : isCr (kd h0 (360 + j)) := by
  rw [X.1.1]
  rcases crk_or (nI c) with e | e | e | e
  · exact Or.inl e
  · exact Or.inr (Or.inl e)
  · exact Or.inr (Or.inr (Or.inl e))
  · exact Or.inr (Or.inr (Or.inr e))
theorem KA.run {m : Nat} {f : Nat → Int32} {b : Int32} (K : KA h0 j h m f) (X : FX h0 σ j c) (hm : m < 20) : ∃ h', f_X1_runs h (360 + j) b = some h' ∧ KA h0 j h' (m + 1) (va_up f m b) := by
  obtain ⟨⟨k1, k2, k3, k4⟩, kf, k5, ka, kb⟩ := K
  obtain ⟨-, x2, x3, x4, -⟩ := id X
  have cr : kd h (360 + j) = 2 ∨ kd h (360 + j) = 3 ∨ kd h (360 + j) = 6 ∨ kd h (360 + j) = 7 := by rw [k1]; exact X.cr
  have g3 : xgc h (360 + j) 3 = some (nI m) := by unfold xgc; rw [if_pos cr, k5]
  have g2 : xgcr h (360 + j) 2 = some (390 + j) := by unfold xgcr; rw [if_pos cr, k3, x2]
  have w : xis h (390 + j) (nI m) b = some (sai h (390 + j) m b) := xis_of (by rw [k1]; exact x3) (by rw [k2]; exact x4) hm (by decide)
  have hn : ¬ (20 : Int32) ≤ nI m := by rw [lt20, nI_leI (by decide) (by omega)]; omega
  have g3' : xgc (sai h (390 + j) m b) (360 + j) 3 = some (nI m) := g3
  have p3 : xpc (sai h (390 + j) m b) (360 + j) 3 (nI (m + 1)) = some (sfi (sai h (390 + j) m b) (360 + j) 3 (nI (m + 1))) := xpc_ok (show isCr (kd h (360 + j)) from cr)
  refine ⟨sfi (sai h (390 + j) m b) (360 + j) 3 (nI (m + 1)), ?_, ⟨k1, k2, k3, k4⟩, fun r k hk => ?_, ?_, fun r hr => ?_, fun i hi => ?_⟩
  · unfold f_X1_runs f_X1_runs_b19
    rw [if_pos cr, g3, obs, if_neg hn, g2, obs, obs, w, obs, g3', obs, nI_1, p3, obs]
  · rw [fi_sfi, if_neg hk]; exact kf r k hk
  · rw [fi_sfi, if_pos ⟨rfl, rfl⟩]
  · show ai (sai h (390 + j) m b) r = _
    rw [ai_sai_ne hr]; exact ka r hr
  · show ai (sai h (390 + j) m b) (390 + j) i = (if i = m then b else f i)
    rw [ai_sai]
    by_cases e : i = m
    · rw [if_pos ⟨rfl, e⟩, if_pos e]
    · rw [if_neg (fun z => e z.2), if_neg e]; exact kb i (by omega)
theorem KB.run {m : Nat} {f : Nat → Int32} {b : Int32} (K : KB σ h m f) (hm : m < 20) : ∃ h', f_X12_body h 100 b = some h' ∧ KB σ h' (m + 1) (va_up f m b) ∧ FRc h h' := by
  obtain ⟨A, H, hA⟩ := K
  have e64 : (kB σ A (nI m)).1 64 = nI m := kB1
  have w1 := rw65 H (n := m) (x := b) hm
  have w2 := w1.2.fi 64 (nI (m + 1))
  have e64' : (s2 (kB σ A (nI m)) 65 m b).1 64 = nI m := e64
  have hn : ¬ (20 : Int32) ≤ nI m := by rw [lt20, nI_leI (by decide) (by omega)]; omega
  refine ⟨sfi (sai h 165 m b) 100 64 (nI (m + 1)), ?_, ⟨va_up A m b, w2.cg (fun k => ?_) (fun k _ i => ?_), fun i hi => ?_⟩, (FRc.a (by omega) (by omega)).trans FRc.f⟩
  · unfold f_X12_body f_X12_body_b19
    rw [if_pos H.1, RS.gi H, obs, e64, if_neg hn, rg65 H, obs, obs, w1.1, obs, RS.gi w1.2, obs, e64', nI_1, w1.2.pi, obs]
  · show (if k = 64 then nI (m + 1) else σ.1 k) = (if k = 64 then nI (m + 1) else if k = 64 then nI m else σ.1 k)
    by_cases e : k = 64
    · rw [if_pos e, if_pos e]
    · rw [if_neg e, if_neg e, if_neg e]
  · show (if k = 65 then va_up A m b else σ.2 k) i = (s2 (kB σ A (nI m)) 65 m b).2 k i
    rw [s2_ite]
    by_cases e : k = 65
    · subst e
      show (if i = m then b else A i) = _
      by_cases e2 : i = m
      · rw [if_pos e2, if_pos ⟨rfl, e2⟩]
      · rw [if_neg e2, if_neg (fun z => e2 z.2)]; rfl
    · rw [if_neg e, if_neg (fun z => e z.1)]
      show _ = (if k = 65 then A else σ.2 k) i
      rw [if_neg e]
  · show (if i = m then b else A i) = (if i = m then b else f i)
    by_cases e : i = m
    · rw [if_pos e, if_pos e]
    · rw [if_neg e, if_neg e]; exact hA i (by omega)
/-- both run alike, at most d bodies -/
def JN (h0 : AH) (σ : SG) (j d : Nat) (cl rf : AH → Option (Int32 × AH)) : Prop := ∀ h m f, KA h0 j h m f → m + d ≤ 20 → ∃ v m' f', m' ≤ m + d ∧ (∃ h', cl h = some (v, h') ∧ KA h0 j h' m' f') ∧ ∀ h2, KB σ h2 m f → ∃ h3, rf h2 = some (v, h3) ∧ KB σ h3 m' f' ∧ FRc h2 h3
theorem KB.k {m : Nat} {f : Nat → Int32} (K : KB σ h m f) : kd h 100 = 14 := by
  obtain ⟨A, H, -⟩ := K
  exact H.1
theorem KB.v30 {m : Nat} {f : Nat → Int32} (K : KB σ h m f) (hj : j < 24) : xgr h 100 13 30 = some 130 ∧ xia h 130 (nI j) = some (σ.2 30 j) := by
  obtain ⟨A, H, -⟩ := K
  exact ⟨rg30 H, ra30 H hj⟩
theorem KB.v29 {m : Nat} {f : Nat → Int32} (K : KB σ h m f) (X : FX h0 σ j c) : xgr h 100 13 29 = some 129 ∧ xia h 129 (nI j) = some (nI c) := by
  obtain ⟨A, H, -⟩ := K
  refine ⟨rg29 H, ?_⟩
  rw [← X.2.2.2.2.2.2]
  exact ra29 H X.1.2.2
theorem KA.kd {m : Nat} {f : Nat → Int32} (K : KA h0 j h m f) : kd h (360 + j) = CRainCoverLaw_law_r3070_ac19d8.kd h0 (360 + j) := by rw [K.1.1]
theorem KA.cr {m : Nat} {f : Nat → Int32} (K : KA h0 j h m f) (X : FX h0 σ j c) : CRainCoverLaw_law_r3070_ac19d8.kd h (360 + j) = 2 ∨ CRainCoverLaw_law_r3070_ac19d8.kd h (360 + j) = 3 ∨ CRainCoverLaw_law_r3070_ac19d8.kd h (360 + j) = 6 ∨ CRainCoverLaw_law_r3070_ac19d8.kd h (360 + j) = 7 := by rw [K.1.1]; exact X.cr
theorem same4 {α : Type} {k : Nat} {a d : α} (e : k = 2 ∨ k = 3 ∨ k = 6 ∨ k = 7) : (if k = 2 then a else if k = 3 then a else if k = 6 then a else if k = 7 then a else d) = a := by
  rcases e with e | e | e | e <;> simp [e]
theorem j_drinksC (X : FX h0 σ j c) {x : Int32} : JN h0 σ j 1 (fun h => f_X1_drinks h (360 + j) x) (fun h => f_X12_drinksCrop h 100 (nI j) x) := by
  intro h m f K hm
  obtain ⟨h1, e1, K1⟩ := K.run X (b := 10) (by omega)
  have g1 : xgc h1 (360 + j) 1 = some (σ.2 30 j) := by
    unfold xgc
    rw [if_pos (K1.cr X), K1.2.1 _ _ (by omega), X.2.2.2.2.2.1]
  refine ⟨x + σ.2 30 j, m + 1, va_up f m 10, by omega, ⟨h1, ?_, K1⟩, fun h2 B => ?_⟩
  · simp only []
    unfold f_X1_drinks
    rw [if_pos (K.cr X), same4 (K.cr X), e1, obs, g1, obs]
  · obtain ⟨h3, e3, B3, F3⟩ := B.run (b := 10) (by omega)
    refine ⟨h3, ?_, B3, F3⟩
    simp only []
    unfold f_X12_drinksCrop
    rw [if_pos B.k, e3, obs, (B3.v30 X.1.2.2).1, obs, (B3.v30 X.1.2.2).2, obs]
theorem kd_c {k : Nat} (X : FX h0 σ j c) (e : crK (nI c) = k) : kd h0 (360 + j) = k := by rw [X.1.1]; exact e
def clD (h : AH) (r : Nat) (x : Int32) : Option (Int32 × AH) := if kd h r = 2 then f_X0_drinks h r x else if kd h r = 3 then f_X1_drinks h r x else if kd h r = 6 then f_X4_drinks h r x else if kd h r = 7 then f_X4_drinks h r x else none
def clW (h : AH) (r : Nat) (x : Int32) : Option (Int32 × AH) := if kd h r = 2 then f_X0_wilts h r x else if kd h r = 3 then f_X1_wilts h r x else if kd h r = 6 then f_X1_wilts h r x else if kd h r = 7 then f_X5_wilts h r x else none
def clY (h : AH) (r : Nat) (x : Int32) : Option (Int32 × AH) := if kd h r = 2 then f_X1_yields h r x else if kd h r = 3 then f_X1_yields h r x else if kd h r = 6 then f_X1_yields h r x else if kd h r = 7 then f_X5_yields h r x else none
theorem j_drinks (X : FX h0 σ j c) {x : Int32} : JN h0 σ j 2 (fun h => clD h (360 + j) x) (fun h => f_X12_drinks h 100 (nI j) x) := by
  intro h m f K hm
  have c4 : c = 0 ∨ c = 1 ∨ c = 2 ∨ c = 3 := by have := X.1.2.1; omega
  have hk := K.kd
  rcases c4 with e | e | e | e
  · subst e
    rw [kd_c X (k := 3) (by decide)] at hk
    obtain ⟨v, m', f', hm', ⟨h1, e1, K1⟩, hr⟩ := j_drinksC X (x := x) h m f K (by omega)
    refine ⟨v, m', f', by omega, ⟨h1, ?_, K1⟩, fun h2 B => ?_⟩
    · simp only [] at e1 ⊢
      unfold clD
      rw [hk, if_neg (by decide), if_pos rfl, e1]
    · obtain ⟨h3, e3, B3, F3⟩ := hr h2 B
      refine ⟨h3, ?_, B3, F3⟩
      simp only [] at e3 ⊢
      unfold f_X12_drinks
      rw [if_pos B.k, (B.v29 X).1, obs, (B.v29 X).2, obs, if_neg (by decide), obs, (B.v29 X).2, obs, if_neg (by decide), obs, (B.v29 X).2, obs, if_neg (by decide), e3, obs]
  · subst e
    rw [kd_c X (k := 6) (by decide)] at hk
    obtain ⟨h1, e1, K1⟩ := K.run X (b := 20) (by omega)
    obtain ⟨v, m', f', hm', ⟨h2', e2, K2⟩, hr⟩ := j_drinksC X (x := x) h1 _ _ K1 (by omega)
    have g0 : xgc h2' (360 + j) 0 = some (nI j) := by
      unfold xgc
      rw [if_pos (K2.cr X), K2.2.1 _ _ (by omega), X.2.2.2.2.1]
    refine ⟨v - nI j, m', f', by omega, ⟨h2', ?_, K2⟩, fun h2 B => ?_⟩
    · simp only [] at e2 ⊢
      have hk1 : kd h1 (360 + j) = 6 := by rw [K1.kd, ← K.kd]; exact hk
      unfold clD f_X4_drinks
      rw [hk, if_neg (by decide), if_neg (by decide), if_pos rfl, if_pos (Or.inl rfl), if_pos rfl, e1, obs, hk1, if_pos rfl, e2, obs, g0, obs]
    · obtain ⟨h3, e3, B3, F3⟩ := B.run (b := 20) (by omega)
      obtain ⟨h4, e4, B4, F4⟩ := hr h3 B3
      refine ⟨h4, ?_, B4, F3.trans F4⟩
      simp only [] at e4 ⊢
      unfold f_X12_drinks f_X12_drinks_b20
      rw [if_pos B.k, (B.v29 X).1, obs, (B.v29 X).2, obs, if_pos (by decide), e3, obs, e4, obs]
  · subst e
    rw [kd_c X (k := 7) (by decide)] at hk
    obtain ⟨h1, e1, K1⟩ := K.run X (b := 20) (by omega)
    obtain ⟨v, m', f', hm', ⟨h2', e2, K2⟩, hr⟩ := j_drinksC X (x := x) h1 _ _ K1 (by omega)
    have g0 : xgc h2' (360 + j) 0 = some (nI j) := by
      unfold xgc
      rw [if_pos (K2.cr X), K2.2.1 _ _ (by omega), X.2.2.2.2.1]
    refine ⟨v - nI j, m', f', by omega, ⟨h2', ?_, K2⟩, fun h2 B => ?_⟩
    · simp only [] at e2 ⊢
      have hk1 : kd h1 (360 + j) = 7 := by rw [K1.kd, ← K.kd]; exact hk
      unfold clD f_X4_drinks
      rw [hk, if_neg (by decide), if_neg (by decide), if_neg (by decide), if_pos rfl, if_pos (Or.inr rfl), if_neg (by decide), if_pos rfl, e1, obs, hk1, if_neg (by decide), if_pos rfl, e2, obs, g0, obs]
    · obtain ⟨h3, e3, B3, F3⟩ := B.run (b := 20) (by omega)
      obtain ⟨h4, e4, B4, F4⟩ := hr h3 B3
      refine ⟨h4, ?_, B4, F3.trans F4⟩
      simp only [] at e4 ⊢
      unfold f_X12_drinks f_X12_drinks_b20
      rw [if_pos B.k, (B.v29 X).1, obs, (B.v29 X).2, obs, if_neg (by decide), obs, (B.v29 X).2, obs, if_pos (by decide), e3, obs, e4, obs]
  · subst e
    rw [kd_c X (k := 2) (by decide)] at hk
    obtain ⟨h1, e1, K1⟩ := K.run X (b := 41) (by omega)
    obtain ⟨v, m', f', hm', ⟨h2', e2, K2⟩, hr⟩ := j_drinksC X (x := x) h1 _ _ K1 (by omega)
    refine ⟨v ^^^ 5, m', f', by omega, ⟨h2', ?_, K2⟩, fun h2 B => ?_⟩
    · simp only [] at e2 ⊢
      have hk1 : kd h1 (360 + j) = 2 := by rw [K1.kd, ← K.kd]; exact hk
      unfold clD f_X0_drinks
      rw [hk, if_pos rfl, if_pos rfl, if_pos rfl, e1, obs, hk1, if_pos rfl, e2, obs]
    · obtain ⟨h3, e3, B3, F3⟩ := B.run (b := 41) (by omega)
      obtain ⟨h4, e4, B4, F4⟩ := hr h3 B3
      refine ⟨h4, ?_, B4, F3.trans F4⟩
      simp only [] at e4 ⊢
      unfold f_X12_drinks
      rw [if_pos B.k, (B.v29 X).1, obs, (B.v29 X).2, obs, if_neg (by decide), obs, (B.v29 X).2, obs, if_neg (by decide), obs, (B.v29 X).2, obs, if_pos (by decide), e3, obs, e4, obs]
theorem j_wiltsC (X : FX h0 σ j c) {x : Int32} : JN h0 σ j 3 (fun h => f_X1_wilts h (360 + j) x) (fun h => f_X12_wiltsCrop h 100 (nI j) x) := by
  intro h m f K hm
  obtain ⟨h1, e1, K1⟩ := K.run X (b := 11) (by omega)
  obtain ⟨v, m', f', hm', ⟨h2', e2, K2⟩, hr⟩ := j_drinks X (x := x) h1 _ _ K1 (by omega)
  refine ⟨v * 3, m', f', by omega, ⟨h2', ?_, K2⟩, fun h2 B => ?_⟩
  · simp only [] at e2 ⊢
    unfold clD at e2
    unfold f_X1_wilts
    rw [if_pos (K.cr X), same4 (K.cr X), e1, obs, e2, obs]
  · obtain ⟨h3, e3, B3, F3⟩ := B.run (b := 11) (by omega)
    obtain ⟨h4, e4, B4, F4⟩ := hr h3 B3
    refine ⟨h4, ?_, B4, F3.trans F4⟩
    simp only [] at e4 ⊢
    unfold f_X12_wiltsCrop
    rw [if_pos B.k, e3, obs, e4, obs]
theorem j_wilts (X : FX h0 σ j c) {x : Int32} : JN h0 σ j 4 (fun h => clW h (360 + j) x) (fun h => f_X12_wilts h 100 (nI j) x) := by
  intro h m f K hm
  have c4 : (c = 0 ∨ c = 1) ∨ c = 2 ∨ c = 3 := by have := X.1.2.1; omega
  have hk := K.kd
  rcases c4 with e01 | e | e
  · obtain ⟨v, m', f', hm', ⟨h1, e1, K1⟩, hr⟩ := j_wiltsC X (x := x) h m f K (by omega)
    refine ⟨v, m', f', by omega, ⟨h1, ?_, K1⟩, fun h2 B => ?_⟩
    · simp only [] at e1 ⊢
      unfold clW
      rcases e01 with e | e
      · subst e
        rw [kd_c X (k := 3) (by decide)] at hk
        rw [hk, if_neg (by decide), if_pos rfl, e1]
      · subst e
        rw [kd_c X (k := 6) (by decide)] at hk
        rw [hk, if_neg (by decide), if_neg (by decide), if_pos rfl, e1]
    · obtain ⟨h3, e3, B3, F3⟩ := hr h2 B
      refine ⟨h3, ?_, B3, F3⟩
      simp only [] at e3 ⊢
      have n2 : ¬ nI c = 2 := by rcases e01 with e | e <;> rw [e] <;> decide
      have n3 : ¬ nI c = 3 := by rcases e01 with e | e <;> rw [e] <;> decide
      unfold f_X12_wilts
      rw [if_pos B.k, (B.v29 X).1, obs, (B.v29 X).2, obs, if_neg n2, obs, (B.v29 X).2, obs, if_neg n3, e3, obs]
  · subst e
    rw [kd_c X (k := 7) (by decide)] at hk
    obtain ⟨h1, e1, K1⟩ := K.run X (b := 30) (by omega)
    obtain ⟨v, m', f', hm', ⟨h2', e2, K2⟩, hr⟩ := j_wiltsC X (x := x) h1 _ _ K1 (by omega)
    refine ⟨v + 1, m', f', by omega, ⟨h2', ?_, K2⟩, fun h2 B => ?_⟩
    · simp only [] at e2 ⊢
      have hk1 : kd h1 (360 + j) = 7 := by rw [K1.kd, ← K.kd]; exact hk
      unfold clW f_X5_wilts
      rw [hk, if_neg (by decide), if_neg (by decide), if_neg (by decide), if_pos rfl, if_pos rfl, if_pos rfl, e1, obs, hk1, if_pos rfl, e2, obs]
    · obtain ⟨h3, e3, B3, F3⟩ := B.run (b := 30) (by omega)
      obtain ⟨h4, e4, B4, F4⟩ := hr h3 B3
      refine ⟨h4, ?_, B4, F3.trans F4⟩
      simp only [] at e4 ⊢
      unfold f_X12_wilts
      rw [if_pos B.k, (B.v29 X).1, obs, (B.v29 X).2, obs, if_pos (by decide), e3, obs, e4, obs]
  · subst e
    rw [kd_c X (k := 2) (by decide)] at hk
    obtain ⟨h1, e1, K1⟩ := K.run X (b := 40) (by omega)
    obtain ⟨v, m', f', hm', ⟨h2', e2, K2⟩, hr⟩ := j_wiltsC X (x := x) h1 _ _ K1 (by omega)
    refine ⟨v * 2, m', f', by omega, ⟨h2', ?_, K2⟩, fun h2 B => ?_⟩
    · simp only [] at e2 ⊢
      have hk1 : kd h1 (360 + j) = 2 := by rw [K1.kd, ← K.kd]; exact hk
      unfold clW f_X0_wilts
      rw [hk, if_pos rfl, if_pos rfl, if_pos rfl, e1, obs, hk1, if_pos rfl, e2, obs]
    · obtain ⟨h3, e3, B3, F3⟩ := B.run (b := 40) (by omega)
      obtain ⟨h4, e4, B4, F4⟩ := hr h3 B3
      refine ⟨h4, ?_, B4, F3.trans F4⟩
      simp only [] at e4 ⊢
      unfold f_X12_wilts
      rw [if_pos B.k, (B.v29 X).1, obs, (B.v29 X).2, obs, if_neg (by decide), obs, (B.v29 X).2, obs, if_pos (by decide), e3, obs, e4, obs]
theorem j_yieldsC (X : FX h0 σ j c) {x : Int32} : JN h0 σ j 7 (fun h => f_X1_yields h (360 + j) x) (fun h => f_X12_yieldsCrop h 100 (nI j) x) := by
  intro h m f K hm
  obtain ⟨h1, e1, K1⟩ := K.run X (b := 12) (by omega)
  obtain ⟨v, m2, f2, hm2, ⟨h2', e2, K2⟩, hr⟩ := j_wilts X (x := x) h1 _ _ K1 (by omega)
  obtain ⟨v3, m3, f3, hm3, ⟨h3', e3, K3⟩, hr3⟩ := j_drinks X (x := x - 1) h2' _ _ K2 (by omega)
  refine ⟨v ^^^ v3, m3, f3, by omega, ⟨h3', ?_, K3⟩, fun h2 B => ?_⟩
  · simp only [] at e2 e3 ⊢
    unfold clW at e2
    unfold clD at e3
    unfold f_X1_yields
    rw [if_pos (K.cr X), same4 (K.cr X), e1, obs, e2, obs]
    simp only []
    rw [e3, obs]
  · obtain ⟨h4, e4, B4, F4⟩ := B.run (b := 12) (by omega)
    obtain ⟨h5, e5, B5, F5⟩ := hr h4 B4
    obtain ⟨h6, e6, B6, F6⟩ := hr3 h5 B5
    refine ⟨h6, ?_, B6, (F4.trans F5).trans F6⟩
    simp only [] at e5 e6 ⊢
    unfold f_X12_yieldsCrop
    rw [if_pos B.k, e4, obs, e5, obs]
    simp only []
    rw [e6, obs]
theorem j_yields (X : FX h0 σ j c) {x : Int32} : JN h0 σ j 8 (fun h => clY h (360 + j) x) (fun h => f_X12_yields h 100 (nI j) x) := by
  intro h m f K hm
  have c4 : (c = 0 ∨ c = 1 ∨ c = 3) ∨ c = 2 := by have := X.1.2.1; omega
  have hk := K.kd
  rcases c4 with e01 | e
  · obtain ⟨v, m', f', hm', ⟨h1, e1, K1⟩, hr⟩ := j_yieldsC X (x := x) h m f K (by omega)
    refine ⟨v, m', f', by omega, ⟨h1, ?_, K1⟩, fun h2 B => ?_⟩
    · simp only [] at e1 ⊢
      unfold clY
      rcases e01 with e | e | e
      · subst e
        rw [kd_c X (k := 3) (by decide)] at hk
        rw [hk, if_neg (by decide), if_pos rfl, e1]
      · subst e
        rw [kd_c X (k := 6) (by decide)] at hk
        rw [hk, if_neg (by decide), if_neg (by decide), if_pos rfl, e1]
      · subst e
        rw [kd_c X (k := 2) (by decide)] at hk
        rw [hk, if_pos rfl, e1]
    · obtain ⟨h3, e3, B3, F3⟩ := hr h2 B
      refine ⟨h3, ?_, B3, F3⟩
      simp only [] at e3 ⊢
      have n2 : ¬ nI c = 2 := by rcases e01 with e | e | e <;> rw [e] <;> decide
      unfold f_X12_yields
      rw [if_pos B.k, (B.v29 X).1, obs, (B.v29 X).2, obs, if_neg n2, e3, obs]
  · subst e
    rw [kd_c X (k := 7) (by decide)] at hk
    obtain ⟨h1, e1, K1⟩ := K.run X (b := 31) (by omega)
    obtain ⟨v, m', f', hm', ⟨h2', e2, K2⟩, hr⟩ := j_yieldsC X (x := x + 2) h1 _ _ K1 (by omega)
    refine ⟨v, m', f', by omega, ⟨h2', ?_, K2⟩, fun h2 B => ?_⟩
    · simp only [] at e2 ⊢
      have hk1 : kd h1 (360 + j) = 7 := by rw [K1.kd, ← K.kd]; exact hk
      unfold clY f_X5_yields
      rw [hk, if_neg (by decide), if_neg (by decide), if_neg (by decide), if_pos rfl, if_pos rfl, if_pos rfl, e1, obs, hk1, if_pos rfl, e2, obs]
    · obtain ⟨h3, e3, B3, F3⟩ := B.run (b := 31) (by omega)
      obtain ⟨h4, e4, B4, F4⟩ := hr h3 B3
      refine ⟨h4, ?_, B4, F3.trans F4⟩
      simp only [] at e4 ⊢
      unfold f_X12_yields
      rw [if_pos B.k, (B.v29 X).1, obs, (B.v29 X).2, obs, if_pos (by decide), e3, obs, e4, obs]
theorem RS.sfr1 {x : Option Nat} (H : RS h σ) : RS (sfr h 1 15 x) σ := by
  obtain ⟨h1, h2, h3, h4⟩ := H
  refine ⟨h1, fun k hk hl => ?_, h3, h4⟩
  have := h2 k hk hl
  refine ⟨?_, this.2⟩
  rw [fr_sfr, if_neg (by omega)]
  exact this.1
theorem kB_W {A : Nat → Int32} {x : Int32} (W : WV σ) : WV (kB σ A x) := W.of (fun k hk => by
  have t : ∀ k ∈ vs1, k ≠ 64 := by decide
  exact if_neg (t k hk)) (fun k hk => by
  have t : ∀ k ∈ vs2, k ≠ 65 := by decide
  exact if_neg (t k hk)) (by
  intro q hq i hi
  have t : ∀ q ∈ wR, q.1 ≠ 65 ∧ q.2.1 ≠ 64 ∧ q.2.2 ≠ 64 := by decide
  obtain ⟨t1, t2, t3⟩ := t q hq
  have cT : ∀ k, k ≠ 64 → ct (kB σ A x) k = ct σ k := fun k hk => by
    unfold ct cn
    rw [show (kB σ A x).1 k = σ.1 k from if_neg hk]
  rw [cT _ t2] at hi
  rw [cT _ t3, show (kB σ A x).2 q.1 = σ.2 q.1 from if_neg t1]
  exact W.2.1 q hq i hi) (by
  unfold WL
  rw [show (kB σ A x).2 5 = σ.2 5 from kB2 (by decide)]
  exact W.2.2.1)
theorem kB_X {A : Nat → Int32} {m : Nat} (X : WX σ n) (hm : m ≤ 20) : WX (kB σ A (nI m)) n := by
  obtain ⟨y1, y2, y3, y4, y5, y6, y7⟩ := X
  exact ⟨y1, y2, y3, ⟨m, by omega, kB1⟩, y5, y6, y7⟩
theorem pub_act {a b x : Int32} (I : INV L xs h σ tr u n) : ∃ v h1 h2 σ' tr' u', f_X11_act h 1 a b x = some (v, h1) ∧ f_X12_act h1 100 a b x = some (v, h2) ∧ (kd h1 9000 = 30 ∧ ln h1 9000 = L ∧ ai h1 9000 = xs) ∧ INV L xs h2 σ' tr' u' (n + 1) := by
  obtain ⟨C, H, W, X, S, U⟩ := id I
  have hF := W.1.f
  have xn : xpn h 1 12 15 = some (sfr h 1 15 none) := by unfold xpn; rw [if_pos (kk1 C)]
  have C1 : CS (sfr h 1 15 none) (kB σ (σ.2 65) (nI 0)) tr u := by
    refine C.act W.1 rfl rfl rfl (fun r k hk => by rw [fr_sfr, if_neg hk]) (fun _ _ _ => rfl) (fun _ _ => rfl) (fun k hk => if_neg hk) (fun k hk => if_neg hk) (Or.inl ⟨?_, kB1⟩)
    rw [fr_sfr, if_pos ⟨rfl, rfl⟩]
  have C0 : CS (sfr h 1 15 none) (kB σ (σ.2 65) (nI 0)) tr u := C1
  have W1 : WV (kB σ (σ.2 65) (nI 0)) := kB_W W
  have H1 : RS (sfr h 1 15 none) σ := H.sfr1
  have K0 : ∀ h2, RS h2 σ → RS (sfi h2 100 64 0) (kB σ (σ.2 65) (nI 0)) := fun h2 H2 => (H2.fi 64 0).cg (fun _ => rfl) (fun k _ i => by
    show (if k = 65 then σ.2 65 else σ.2 k) i = σ.2 k i
    by_cases e : k = 65
    · subst e; rfl
    · rw [if_neg e])
  have isF : f_X11_isFarm (sfr h 1 15 none) 1 a = some (if ok a (cn σ 26) then 1 else 0) := c_isFarm C1 W1.1
  have neg : (ok a (cn σ 26) = false ∨ ok b 3 = false) → ∃ v h1 h2 σ' tr' u', f_X11_act h 1 a b x = some (v, h1) ∧ f_X12_act h1 100 a b x = some (v, h2) ∧ (kd h1 9000 = 30 ∧ ln h1 9000 = L ∧ ai h1 9000 = xs) ∧ INV L xs h2 σ' tr' u' (n + 1) := by
    intro hn
    have H2 := K0 _ H1
    have rF : f_X12_isFarm (sfi (sfr h 1 15 none) 100 64 0) 100 a = some (if ok a (cn σ 26) then 1 else 0) := r_isFarm H2 W1.1
    refine ⟨0, sfr h 1 15 none, sfi (sfr h 1 15 none) 100 64 0, kB σ (σ.2 65) (nI 0), tr, u, ?_, ?_, S, I.st C1 FRc.f H2 W1 (kB_X (X.up (by omega)) (by omega)) S (by omega)⟩
    · rcases oa : ok a (cn σ 26)
      · simp only [f_X11_act, obs, b10, b01, bm, if_true_, if_false_, eq_self, not_true_eq_false, not_false_eq_true, true_or, or_true, or_false, false_or, and_true, true_and, and_false, false_and, or_self, and_self, Bool.false_eq_true, ite_self, n25, n20, n24, n100, kk1 C, xn, isF, oa]
      · rcases hn with hn | hn
        · rw [oa] at hn; cases hn
        · simp only [f_X11_act, obs, b10, b01, bm, if_true_, if_false_, eq_self, not_true_eq_false, not_false_eq_true, true_or, or_true, or_false, false_or, and_true, true_and, and_false, false_and, or_self, and_self, Bool.false_eq_true, ite_self, n25, n20, n24, n100, kk1 C, xn, isF, oa, ci2, hn]
    · rcases oa : ok a (cn σ 26)
      · simp only [f_X12_act, obs, b10, b01, bm, if_true_, if_false_, eq_self, not_true_eq_false, not_false_eq_true, true_or, or_true, or_false, false_or, and_true, true_and, and_false, false_and, or_self, and_self, Bool.false_eq_true, ite_self, n25, n20, n24, n100, RS.kk H1, H1.pi, rF, oa]
      · rcases hn with hn | hn
        · rw [oa] at hn; cases hn
        · simp only [f_X12_act, obs, b10, b01, bm, if_true_, if_false_, eq_self, not_true_eq_false, not_false_eq_true, true_or, or_true, or_false, false_or, and_true, true_and, and_false, false_and, or_self, and_self, Bool.false_eq_true, ite_self, n25, n20, n24, n100, RS.kk H1, H1.pi, rF, oa, ri2, hn]
  rcases okC a (n := cn σ 26) (by omega) with oa | ⟨oa, j, hj, rfl⟩
  · exact neg (Or.inl oa)
  rcases okC b (n := 3) (by decide) with ob | ⟨ob, k, hk, rfl⟩
  · exact neg (Or.inr ob)
  obtain ⟨c, hc, ec⟩ := wv29 W hj
  obtain ⟨⟨c1, c2, c3, c4, c5, c6⟩, c7, c8, c9⟩ := C.2.2.2.2.1.1 j hj
  have kd9 : kd h (390 + j) = 20 := C.oj (b := 390) (c := 26) (k := 20) (m := 24) (by decide) hj
  obtain ⟨hb, ehb⟩ : ∃ hb, hb = sfi (sfr (sfr h 1 15 none) 1 15 (some (360 + j))) (360 + j) 3 0 := ⟨_, rfl⟩
  have FXb : FX hb σ j c := by
    rw [ehb]
    refine ⟨⟨?_, hc, by omega⟩, ?_, kd9, c3, ?_, ?_, ec⟩
    · show kd h (360 + j) = _
      rw [← ec]; exact c1
    · show fr (sfr (sfr h 1 15 none) 1 15 (some (360 + j))) (360 + j) 2 = _
      rw [fr_sfr, if_neg (by omega), fr_sfr, if_neg (by omega)]; exact c2
    · rw [fi_sfi, if_neg (by omega)]; exact c8
    · rw [fi_sfi, if_neg (by omega)]; exact c9
  have KAb : KA hb j hb 0 (fun _ => 0) := ⟨⟨rfl, rfl, rfl, rfl⟩, fun _ _ _ => rfl, by rw [ehb, fi_sfi, if_pos ⟨rfl, rfl⟩]; rfl, fun _ _ => rfl, fun i hi => absurd hi (by omega)⟩
  have fin : ∀ h1 m f, KA hb j h1 m f → m ≤ 20 → ∀ A, (∀ i, i < m → A i = f i) → CS h1 (kB σ A (nI m)) tr u ∧ RS h1 σ ∧ (kd h1 9000 = 30 ∧ ln h1 9000 = L ∧ ai h1 9000 = xs) := by
    intro h1 m f K hm A hA
    obtain ⟨⟨k1, k2, k3, k4⟩, kf, k5, ka, kb⟩ := K
    rw [ehb] at k1 k2 k3 k4 kf ka
    have ka' : ∀ r, ¬ (390 ≤ r ∧ r < 414) → ai h1 r = ai h r := fun r hr => ka r (by omega)
    have kf' : ∀ r k, ¬ (360 ≤ r ∧ r < 384 ∧ k = 3) → fi h1 r k = fi h r k := fun r k hr => by
      rw [kf r k (by omega), fi_sfi, if_neg (by omega)]; rfl
    have kr' : ∀ r k, ¬ (r = 1 ∧ k = 15) → fr h1 r k = fr h r k := fun r k hr => by
      rw [k3]
      show fr (sfr (sfr h 1 15 none) 1 15 (some (360 + j))) r k = _
      rw [fr_sfr, if_neg hr, fr_sfr, if_neg hr]
    have k1' : kd h1 = kd h := k1
    have k2' : ln h1 = ln h := k2
    refine ⟨C.act W.1 k1' k2' k4 kr' kf' ka' (fun k hk => if_neg hk) (fun k hk => if_neg hk) (Or.inr ⟨j, hj, ?_, ?_, fun i hi hr => ?_⟩), ?_, ?_⟩
    · rw [k3]
      show fr (sfr (sfr h 1 15 none) 1 15 (some (360 + j))) 1 15 = _
      rw [fr_sfr, if_pos ⟨rfl, rfl⟩]
    · rw [k5]; exact kB1.symm
    · have hr' : nI i < nI m := by
        have e : (kB σ A (nI m)).1 64 = nI m := kB1
        rw [e] at hr; exact hr
      have him := (nI_ltI (by omega) (by omega)).mp hr'
      rw [kb i him]
      show f i = A i
      exact (hA i him).symm
    · obtain ⟨r1, r2, r3, r4⟩ := H
      refine ⟨by rw [k1']; exact r1, fun k hk hl => ?_, fun k => ?_, fun k hk => ?_⟩
      · rw [kr' _ _ (by omega), k1', k2']; exact r2 k hk hl
      · rw [kf' _ _ (by omega)]; exact r3 k
      · rw [ka' _ (by omega)]; exact r4 k hk
    · rw [k1', k2', ka' _ (by omega)]; exact S
  have kg : f_Jx4a65c_get_915e3 (sfr h 1 15 none) 12 (nI j) = some (300 + j) := kg12 C1 W1.1 hj
  have kc : xcc (sfr h 1 15 none) (300 + j) 3 = some () := kc300 C1 hj
  have kq : xgr (sfr h 1 15 none) (300 + j) 3 4 = some (360 + j) := kq300_4 C1 hj
  have pr : xpr (sfr h 1 15 none) 1 12 15 (360 + j) = some (sfr (sfr h 1 15 none) 1 15 (some (360 + j))) := xpr_ok (show kd h 1 = 12 + 1 from kk1 C) (show kd h (360 + j) ≠ 0 from isCr_0 FXb.cr |> fun z => by rw [ehb] at z; exact z)
  have gn : ∀ z : AH, kd z = kd h → fr z 1 15 = some (360 + j) → xgn z 1 12 15 = some (some (360 + j)) := fun z e1 e2 => by unfold xgn; rw [if_pos (show kd z 1 = 12 + 1 by rw [e1]; exact kk1 C), e2]
  have fr15 : fr (sfr (sfr h 1 15 none) 1 15 (some (360 + j))) 1 15 = some (360 + j) := by rw [fr_sfr, if_pos ⟨rfl, rfl⟩]
  have gn1 := gn (sfr (sfr h 1 15 none) 1 15 (some (360 + j))) rfl fr15
  have gn2 : xgn hb 1 12 15 = some (some (360 + j)) := by rw [ehb]; exact gn _ rfl fr15
  have pc : xpc (sfr (sfr h 1 15 none) 1 15 (some (360 + j))) (360 + j) 3 0 = some hb := by
    rw [ehb]
    exact xpc_ok (show isCr (kd h (360 + j)) from FXb.cr |> fun z => by rw [ehb] at z; exact z)
  have x1 : f_X11_act h 1 (nI j) (nI k) x = (if nI k = 0 then (clD hb (360 + j) x).bind fun q => some (q.1, q.2) else if nI k = 1 then (clW hb (360 + j) x).bind fun q => some (q.1, q.2) else (clY hb (360 + j) x).bind fun q => some (q.1, q.2)) := by
    by_cases z0 : nI k = 0
    · simp only [f_X11_act, obs, b10, b01, bm, if_true_, if_false_, eq_self, not_true_eq_false, not_false_eq_true, true_or, or_true, or_false, false_or, and_true, true_and, and_false, false_and, or_self, and_self, Bool.false_eq_true, ite_self, n25, n20, n24, n100, kk1 C, xn, isF, oa, ci2, ob, kr1_2 C1, kg, kc, kq, pr, gn1, oel_s, pc, z0, gn2, clD, show ok 0 3 = true by decide]
    · by_cases z1 : nI k = 1
      · simp only [f_X11_act, obs, b10, b01, bm, if_true_, if_false_, eq_self, not_true_eq_false, not_false_eq_true, true_or, or_true, or_false, false_or, and_true, true_and, and_false, false_and, or_self, and_self, Bool.false_eq_true, ite_self, n25, n20, n24, n100, kk1 C, xn, isF, oa, ci2, ob, kr1_2 C1, kg, kc, kq, pr, gn1, oel_s, pc, z1, gn2, clW, show ok 1 3 = true by decide]
      · simp only [f_X11_act, obs, b10, b01, bm, if_true_, if_false_, eq_self, not_true_eq_false, not_false_eq_true, true_or, or_true, or_false, false_or, and_true, true_and, and_false, false_and, or_self, and_self, Bool.false_eq_true, ite_self, n25, n20, n24, n100, kk1 C, xn, isF, oa, ci2, ob, kr1_2 C1, kg, kc, kq, pr, gn1, oel_s, pc, z0, z1, gn2, clY]
  have x2 : ∀ h2, RS h2 σ → f_X12_act h2 100 (nI j) (nI k) x = (if nI k = 0 then (f_X12_drinks (sfi h2 100 64 0) 100 (nI j) x).bind fun q => some (q.1, q.2) else if nI k = 1 then (f_X12_wilts (sfi h2 100 64 0) 100 (nI j) x).bind fun q => some (q.1, q.2) else (f_X12_yields (sfi h2 100 64 0) 100 (nI j) x).bind fun q => some (q.1, q.2)) := by
    intro h2 H2
    have rF : f_X12_isFarm (sfi h2 100 64 0) 100 (nI j) = some (if ok (nI j) (cn σ 26) then 1 else 0) := r_isFarm (K0 h2 H2) W1.1
    simp only [f_X12_act, obs, b10, b01, bm, if_true_, if_false_, eq_self, not_true_eq_false, not_false_eq_true, true_or, or_true, or_false, false_or, and_true, true_and, and_false, false_and, or_self, and_self, Bool.false_eq_true, ite_self, n25, n20, n24, n100, RS.kk H2, H2.pi, rF, oa, ri2, ob]
  have go : ∀ d cl rf, JN hb σ j d cl rf → d ≤ 20 → f_X11_act h 1 (nI j) (nI k) x = (cl hb).bind (fun q => some (q.1, q.2)) → (∀ h2, RS h2 σ → f_X12_act h2 100 (nI j) (nI k) x = (rf (sfi h2 100 64 0)).bind (fun q => some (q.1, q.2))) → ∃ v h1 h2 σ' tr' u', f_X11_act h 1 (nI j) (nI k) x = some (v, h1) ∧ f_X12_act h1 100 (nI j) (nI k) x = some (v, h2) ∧ (kd h1 9000 = 30 ∧ ln h1 9000 = L ∧ ai h1 9000 = xs) ∧ INV L xs h2 σ' tr' u' (n + 1) := by
    intro d cl rf J hd y1 y2
    obtain ⟨v, m', f', hm', ⟨h1, e1, K1⟩, hr⟩ := J hb 0 (fun _ => 0) KAb (by omega)
    obtain ⟨-, H1', -⟩ := fin h1 m' f' K1 (by omega) f' (fun _ _ => rfl)
    obtain ⟨h3, e3, ⟨A, H3, hA⟩, F3⟩ := hr (sfi h1 100 64 0) ⟨σ.2 65, K0 h1 H1', fun i hi => absurd hi (by omega)⟩
    obtain ⟨C3, -, S3⟩ := fin h1 m' f' K1 (by omega) A hA
    refine ⟨v, h1, h3, kB σ A (nI m'), tr, u, ?_, ?_, S3, I.st C3 (FRc.f.trans F3) H3 (kB_W W) (kB_X (X.up (by omega)) (by omega)) S3 (by omega)⟩
    · rw [y1, e1, obs]
    · rw [y2 h1 H1', e3, obs]
  have k3 : k = 0 ∨ k = 1 ∨ k = 2 := by omega
  rcases k3 with rfl | rfl | rfl
  · refine go 2 _ _ (j_drinks FXb (x := x)) (by omega) ?_ (fun h2 H2 => ?_)
    · rw [x1, if_pos il0]
    · rw [x2 h2 H2, if_pos il0]
  · refine go 4 _ _ (j_wilts FXb (x := x)) (by omega) ?_ (fun h2 H2 => ?_)
    · rw [x1, if_neg (by decide), if_pos il1]
    · rw [x2 h2 H2, if_neg (by decide), if_pos il1]
  · refine go 8 _ _ (j_yields FXb (x := x)) (by omega) ?_ (fun h2 H2 => ?_)
    · rw [x1, if_neg (by decide), if_neg (by decide)]
    · rw [x2 h2 H2, if_neg (by decide), if_neg (by decide)]
end
