/-! ===== new things ===== -/
section
variable {L N : Nat} {xs : Nat → Int32} {h h' : AH} {σ σ' : SG} {tr : Nat → Nat} {u n : Nat}
def EQR (h h' : AH) (r : Nat) : Prop := kd h' r = kd h r ∧ ln h' r = ln h r ∧ fi h' r = fi h r ∧ fr h' r = fr h r ∧ ai h' r = ai h r ∧ ar h' r = ar h r
theorem EQR.refl {r : Nat} : EQR h h r := ⟨rfl, rfl, rfl, rfl, rfl, rfl⟩
theorem EQR.trans {h1 h2 h3 : AH} {r : Nat} (a : EQR h1 h2 r) (b : EQR h2 h3 r) : EQR h1 h3 r := by
  obtain ⟨a1, a2, a3, a4, a5, a6⟩ := a
  obtain ⟨b1, b2, b3, b4, b5, b6⟩ := b
  exact ⟨b1.trans a1, b2.trans a2, b3.trans a3, b4.trans a4, b5.trans a5, b6.trans a6⟩
theorem up2_row {α : Type} {f : Nat → Nat → α} {r k a : Nat} {x : α} (e : a ≠ r) : up2 f r k x a = f a := by
  unfold up2 va_up
  rw [if_neg e]
theorem EQR.sfi {r a k : Nat} {x : Int32} (e : r ≠ a) : EQR h (sfi h a k x) r := ⟨rfl, rfl, up2_row e, rfl, rfl, rfl⟩
theorem EQR.sfr {r a k : Nat} {x : Option Nat} (e : r ≠ a) : EQR h (sfr h a k x) r := ⟨rfl, rfl, rfl, up2_row e, rfl, rfl⟩
theorem EQR.sai {r a k : Nat} {x : Int32} (e : r ≠ a) : EQR h (sai h a k x) r := ⟨rfl, rfl, rfl, rfl, up2_row e, rfl⟩
theorem EQR.sar {r a k : Nat} {x : Option Nat} (e : r ≠ a) : EQR h (sar h a k x) r := ⟨rfl, rfl, rfl, rfl, rfl, up2_row e⟩
theorem EQR.sarow {r a : Nat} {f : Nat → Option Nat} (e : r ≠ a) : EQR h (sarow h a f) r := ⟨rfl, rfl, rfl, rfl, rfl, if_neg e⟩
theorem EQR.mkc {r a c m : Nat} (e : r ≠ a) : EQR h (mkc h a c m) r := ⟨if_neg e, if_neg e, if_neg e, if_neg e, if_neg e, if_neg e⟩
theorem fr_sfr {r k a b : Nat} {x : Option Nat} : fr (sfr h r k x) a b = if a = r ∧ b = k then x else fr h a b := up2_ite
theorem ar_sar {r k a b : Nat} {x : Option Nat} : ar (sar h r k x) a b = if a = r ∧ b = k then x else ar h a b := up2_ite
theorem kd_mkc {r c m : Nat} : kd (mkc h r c m) r = c := if_pos rfl
theorem ln_mkc {r c m : Nat} : ln (mkc h r c m) r = m := if_pos rfl
theorem fi_mkc {r c m k : Nat} : fi (mkc h r c m) r k = 0 := by
  show va_up h.2.2.1 r (fun _ => 0) r k = 0
  unfold va_up
  rw [if_pos rfl]
theorem ai_mkc {r c m k : Nat} : ai (mkc h r c m) r k = 0 := by
  show va_up h.2.2.2.2.1 r (fun _ => 0) r k = 0
  unfold va_up
  rw [if_pos rfl]
theorem kd_mkc_ne {r c m a : Nat} (e : a ≠ r) : kd (mkc h r c m) a = kd h a := if_neg e
theorem gl_ok {rs : List Nat} (e : ∀ x ∈ rs, kd h x ≠ 0) : gl h rs = some () := by
  unfold gl
  rw [if_pos]
  rw [List.all_eq_true]
  intro x hx
  have := e x hx
  simp [this]
theorem gl1 {a : Nat} (h1 : kd h a ≠ 0) : gl h [a] = some () := gl_ok (fun x hx => by simp at hx; rw [hx]; exact h1)
theorem gl2 {a b : Nat} (h1 : kd h a ≠ 0) (h2 : kd h b ≠ 0) : gl h [a, b] = some () := gl_ok (fun x hx => by
  simp at hx
  rcases hx with e | e
  · rw [e]; exact h1
  · rw [e]; exact h2)
theorem gl3 {a b c : Nat} (h1 : kd h a ≠ 0) (h2 : kd h b ≠ 0) (h3 : kd h c ≠ 0) : gl h [a, b, c] = some () := gl_ok (fun x hx => by
  simp at hx
  rcases hx with e | e | e
  · rw [e]; exact h1
  · rw [e]; exact h2
  · rw [e]; exact h3)
theorem gl4 {a b c d : Nat} (h1 : kd h a ≠ 0) (h2 : kd h b ≠ 0) (h3 : kd h c ≠ 0) (h4 : kd h d ≠ 0) : gl h [a, b, c, d] = some () := gl_ok (fun x hx => by
  simp at hx
  rcases hx with e | e | e | e
  · rw [e]; exact h1
  · rw [e]; exact h2
  · rw [e]; exact h3
  · rw [e]; exact h4)
theorem gl0 : gl h [] = some () := gl_ok (fun x hx => by simp at hx)
theorem xnw_ok {r c : Nat} (e : kd h r = 0) : xnw h r c = some (mkc h r (c + 1) 0) := by unfold xnw; rw [if_pos e]
theorem xna_ok {r t z : Nat} (e : kd h r = 0) (hz : z ≤ 100000) : xna h r t (nI z) = some (mkc h r (20 + t) z) := by
  unfold xna
  rw [nI_clamp (by omega), if_pos ⟨e, nI_pos (by omega), hz⟩]
theorem xpi_ok {r c k : Nat} {x : Int32} (e : kd h r = c + 1) : xpi h r c k x = some (sfi h r k x) := by unfold xpi; rw [if_pos e]
theorem xpr_ok {r c k v : Nat} (e : kd h r = c + 1) (hv : kd h v ≠ 0) : xpr h r c k v = some (sfr h r k (some v)) := by unfold xpr; rw [if_pos ⟨e, hv⟩]
theorem xgi_ok {r c k : Nat} (e : kd h r = c + 1) : xgi h r c k = some (fi h r k) := by unfold xgi; rw [if_pos e]
theorem xgr_ok {r c k : Nat} (e : kd h r = c + 1) : xgr h r c k = fr h r k := by unfold xgr; rw [if_pos e]
theorem xal_23 {r : Nat} (e : kd h r = 23) : xal h r = some (nI (ln h r)) := by unfold xal; rw [if_pos (Or.inl (by rw [e]; decide))]
theorem xal_33 {r : Nat} (e : kd h r = 33) : xal h r = some (nI (ln h r)) := by unfold xal; rw [if_pos (Or.inr (Or.inr (Or.inl e)))]
theorem xas_ok {r j v : Nat} (e : kd h r = 23) (hj : j < ln h r) (hl : ln h r < 2 ^ 31) (hv : 1 ≤ kd h v ∧ kd h v ≤ 14) : xas h r (nI j) v = some (sar h r j (some v)) := by
  unfold xas
  rw [if_pos ⟨nI_in hj hl, Or.inl ⟨e, hv⟩⟩, nI_clamp (by omega)]
/-- one more at the end of a list -/
theorem LZ.add {li v : Nat} {el : Nat → Nat} (Z : LZ h li n el) (hli : 10 ≤ li ∧ li ≤ 13) (hk : kd h li = 1) (hz : fi h li 2 = nI n) (hn : n < 33) (hv : 1 ≤ kd h v ∧ kd h v ≤ 14) (he : el n = v)
    (hel : ∀ j, j < n → 1 ≤ kd h (el j) ∧ kd h (el j) ≤ 14) (h92 : kd h 9200 = 33 ∧ ln h 9200 = 0) (h93 : kd h 9300 = 50) (hnb : ∀ j, j ≤ n → el j < 400 + 8 * li ∨ 408 + 8 * li ≤ el j) :
    ∃ h', f_Jx4a65c_add_9ea2d h li v = some (1, h') ∧ LZ h' li (n + 1) el ∧ fi h' li 2 = nI (n + 1) ∧ kd h' li = 1 ∧ ∀ r, r ≠ li → (r < 400 + 8 * li ∨ 408 + 8 * li ≤ r) → EQR h h' r := by
  have hli0 : kd h li ≠ 0 := by rw [hk]; decide
  have hv0 : kd h v ≠ 0 := by omega
  have ne92 : 9200 ≠ li := by omega
  have cc : ∀ i, cap i < 100 := by intro i; unfold cap; split <;> omega
  have hvb := hnb n (Nat.le_refl n)
  rw [he] at hvb
  -- the heap behind modCount
  have hb11 : ∀ (h2 : AH) (a L : Nat), kd h2 li = 1 → kd h2 a = 23 → ln h2 a = L → n < L → L < 100 → (1 ≤ kd h2 v ∧ kd h2 v ≤ 14) → f_Jx4a65c_add_72be8_b11 h2 li v a (nI n) = some (sfi (sar h2 a n (some v)) li 2 (nI (n + 1))) := by
    intro h2 a L k1 k2 k3 k4 k5 k6
    unfold f_Jx4a65c_add_72be8_b11
    rw [xas_ok k2 (by omega) (by omega) k6, obs, nI_1, xpi_ok (show kd (sar h2 a n (some v)) li = 0 + 1 from k1), obs]
  have pre : f_Jx4a65c_add_9ea2d h li v = (fr h li 1).bind (fun v3 => (f_Jx4a65c_add_72be8 (sfi h li 0 (fi h li 0 + 1)) li v v3 (nI n)).bind fun q5 => some (1, q5)) := by
    unfold f_Jx4a65c_add_9ea2d
    rw [if_pos hk, xgi_ok hk, obs, xpi_ok hk, obs, xgr_ok (h := sfi h li 0 (fi h li 0 + 1)) hk, xgi_ok (h := sfi h li 0 (fi h li 0 + 1)) hk, fi_sfi, if_neg (by omega), hz, gl2 (h := sfi h li 0 (fi h li 0 + 1)) hli0 hv0]
    rfl
  obtain ⟨h2, eh2⟩ : ∃ h2, h2 = sfi h li 0 (fi h li 0 + 1) := ⟨_, rfl⟩
  rw [← eh2] at pre
  have k2 : kd h2 = kd h := by rw [eh2]; rfl
  have l2 : ln h2 = ln h := by rw [eh2]; rfl
  have f2 : fr h2 = fr h := by rw [eh2]; rfl
  have a2 : ar h2 = ar h := by rw [eh2]; rfl
  have i2 : fi h2 li 2 = nI n := by rw [eh2, fi_sfi, if_neg (by omega), hz]
  have Q2 : ∀ r, r ≠ li → EQR h h2 r := by intro r hr; rw [eh2]; exact EQR.sfi hr
  rcases Z with ⟨n0, fr0, kz⟩ | ⟨i, hi, e1, e2, e3, e4, e5, e6⟩
  · -- the first
    subst n0
    have kz0 : kd h2 (400 + 8 * li) = 0 := by rw [k2]; exact kz 0 (by omega)
    have g1 : f_Jx4a65c_grow_92f84 h2 li (nI 1) = some (400 + 8 * li, sfr (mkc h2 (400 + 8 * li) 23 10) li 1 (some (400 + 8 * li))) := by
      unfold f_Jx4a65c_grow_92f84
      have z1 : ¬ (0 : Int32) < nI 0 := by decide
      have z2 : (if (10 : Int32) < nI 1 then nI 1 else 10) = nI 10 := by decide
      have z3 : (nI 10).toNatClampNeg ≤ 40 := by decide
      have kn : kd (mkc h2 (400 + 8 * li) 23 10) li = 0 + 1 := by rw [kd_mkc_ne (by omega), k2, hk]
      rw [if_pos (show kd h2 li = 0 + 1 by rw [k2]; exact hk), xgr_ok (show kd h2 li = 0 + 1 by rw [k2]; exact hk), f2, fr0, obs, xal_33 (by rw [k2]; exact h92.1), obs, l2, h92.2, if_neg z1, obs, if_pos rfl, z2, if_pos z3, gl2 (by rw [k2]; exact hli0) (by rw [k2]; exact hli0), obs, xna_ok kz0 (by omega), obs, xpr_ok kn (by rw [kd_mkc]; decide), obs]
    have g2 : f_Jx4a65c_grow_d5877 h2 li = some (400 + 8 * li, sfr (mkc h2 (400 + 8 * li) 23 10) li 1 (some (400 + 8 * li))) := by
      unfold f_Jx4a65c_grow_d5877
      rw [if_pos (show kd h2 li = 0 + 1 by rw [k2]; exact hk), xgi_ok (show kd h2 li = 0 + 1 by rw [k2]; exact hk), i2, obs, gl1 (by rw [k2]; exact hli0), obs, nI_1, g1, obs]
    have kl3 : kd (sfr (mkc h2 (400 + 8 * li) 23 10) li 1 (some (400 + 8 * li))) li = 1 := by
      show kd (mkc h2 (400 + 8 * li) 23 10) li = 1
      rw [kd_mkc_ne (by omega), k2, hk]
    have b3 := hb11 (sfr (mkc h2 (400 + 8 * li) 23 10) li 1 (some (400 + 8 * li))) (400 + 8 * li) 10 kl3 (show kd (mkc h2 (400 + 8 * li) 23 10) (400 + 8 * li) = 23 from kd_mkc) (show ln (mkc h2 (400 + 8 * li) 23 10) (400 + 8 * li) = 10 from ln_mkc) (by omega) (by omega) (by
      show 1 ≤ kd (mkc h2 (400 + 8 * li) 23 10) v ∧ kd (mkc h2 (400 + 8 * li) 23 10) v ≤ 14
      rw [kd_mkc_ne (by omega), k2]; exact hv)
    refine ⟨sfi (sar (sfr (mkc h2 (400 + 8 * li) 23 10) li 1 (some (400 + 8 * li))) (400 + 8 * li) 0 (some v)) li 2 (nI (0 + 1)), ?_, Or.inr ⟨0, by omega, ?_, ?_, ?_, ?_, ?_, ?_⟩, ?_, kl3, ?_⟩
    · rw [pre, fr0, obs]
      unfold f_Jx4a65c_add_72be8
      rw [if_pos (show kd h2 li = 0 + 1 by rw [k2]; exact hk), xal_33 (by rw [k2]; exact h92.1), obs, l2, h92.2, if_pos rfl, gl3 (by rw [k2]; exact hli0) (by rw [k2]; exact hv0) (by rw [k2, h92.1]; decide), obs, g2, obs]
      simp only []
      rw [b3, obs]
    · show fr (sfr (mkc h2 (400 + 8 * li) 23 10) li 1 (some (400 + 8 * li))) li 1 = _
      rw [fr_sfr, if_pos ⟨rfl, rfl⟩]; rfl
    · exact (show kd (mkc h2 (400 + 8 * li) 23 10) (400 + 8 * li) = 23 from kd_mkc)
    · exact (show ln (mkc h2 (400 + 8 * li) 23 10) (400 + 8 * li) = 10 from ln_mkc)
    · show 0 + 1 ≤ 10
      omega
    · intro j hj
      show ar (sar (sfr (mkc h2 (400 + 8 * li) 23 10) li 1 (some (400 + 8 * li))) (400 + 8 * li) 0 (some v)) (400 + 8 * li) j = some (el j)
      have : j = 0 := by omega
      rw [ar_sar, if_pos ⟨rfl, this⟩, this, he]
    · intro i' h1 h3
      show kd (mkc h2 (400 + 8 * li) 23 10) (400 + 8 * li + i') = 0
      rw [kd_mkc_ne (by omega), k2]
      exact kz i' h3
    · rw [fi_sfi, if_pos ⟨rfl, rfl⟩]
    · intro r hr hb
      exact (Q2 r hr).trans (((EQR.mkc (by omega)).trans (EQR.sfr hr)).trans ((EQR.sar (by omega)).trans (EQR.sfi hr)))
  · have hc := cc i
    have ka : kd h2 (400 + 8 * li + i) = 23 := by rw [k2]; exact e2
    have la : ln h2 (400 + 8 * li + i) = cap i := by rw [l2]; exact e3
    by_cases q : n < cap i
    · have b3 := hb11 h2 (400 + 8 * li + i) (cap i) (by rw [k2]; exact hk) ka la q hc (by rw [k2]; exact hv)
      refine ⟨sfi (sar h2 (400 + 8 * li + i) n (some v)) li 2 (nI (n + 1)), ?_, Or.inr ⟨i, hi, ?_, ka, la, by omega, ?_, ?_⟩, ?_, by rw [← k2] at hk; exact hk, ?_⟩
      · rw [pre, e1, obs]
        unfold f_Jx4a65c_add_72be8
        rw [if_pos (show kd h2 li = 0 + 1 by rw [k2]; exact hk), xal_23 ka, obs, la, if_neg (by rw [nI_eq (by omega) (by omega)]; omega), b3, obs]
      · show fr h2 li 1 = _
        rw [f2]; exact e1
      · intro j hj
        show ar (sar h2 (400 + 8 * li + i) n (some v)) (400 + 8 * li + i) j = some (el j)
        rw [ar_sar]
        by_cases ej : j = n
        · rw [if_pos ⟨rfl, ej⟩, ej, he]
        · rw [if_neg (fun z => ej z.2), a2]; exact e5 j (by omega)
      · intro i' h1 h3
        show kd h2 (400 + 8 * li + i') = 0
        rw [k2]; exact e6 i' h1 h3
      · rw [fi_sfi, if_pos ⟨rfl, rfl⟩]
      · intro r hr hb
        exact (Q2 r hr).trans ((EQR.sar (by omega)).trans (EQR.sfi hr))
    · have hnc : n = cap i := by omega
      have hi3 : i = 0 ∨ i = 1 ∨ i = 2 := by
        rcases i with _ | _ | _ | i
        · omega
        · omega
        · omega
        · exfalso; have h33 : cap (i + 1 + 1 + 1) = 33 := rfl; rw [h33] at hnc; omega
      have hcap : cap (i + 1) < 40 ∧ cap i < cap (i + 1) ∧ f_J8_newLength_cabcc h2 (nI (cap i)) (nI (cap i + 1) - nI (cap i)) (nI (cap i) >>> (1 &&& 31)) = some (nI (cap (i + 1))) ∧ (0 : Int32) < nI (cap i) := by
        unfold f_J8_newLength_cabcc
        rcases hi3 with rfl | rfl | rfl
        · refine ⟨by decide, by decide, ?_, by decide⟩
          rw [if_neg (by decide), if_neg (by decide)]
          exact congrArg some (by decide)
        · refine ⟨by decide, by decide, ?_, by decide⟩
          rw [if_neg (by decide), if_neg (by decide)]
          exact congrArg some (by decide)
        · refine ⟨by decide, by decide, ?_, by decide⟩
          rw [if_neg (by decide), if_neg (by decide)]
          exact congrArg some (by decide)
      obtain ⟨c1, c2, c3, c4⟩ := hcap
      obtain ⟨a, ea⟩ : ∃ a, a = 400 + 8 * li + i := ⟨_, rfl⟩
      rw [← ea] at ka la e1 e2 e3 e5
      have hi8 : i + 1 < 8 := by omega
      have kza : kd h2 (a + 1) = 0 := by
        rw [k2, ea]
        have := e6 (i + 1) (by omega) hi8
        rwa [show 400 + 8 * li + (i + 1) = 400 + 8 * li + i + 1 by omega] at this
      obtain ⟨h3, eh3⟩ : ∃ h3, h3 = mkc h2 (a + 1) 23 (cap (i + 1)) := ⟨_, rfl⟩
      have k3 : kd h3 a = 23 := by rw [eh3, kd_mkc_ne (by omega)]; exact ka
      have k3n : kd h3 (a + 1) = 23 := by rw [eh3]; exact kd_mkc
      have l3 : ln h3 a = cap i := by rw [eh3]; show (if a = a + 1 then _ else ln h2 a) = _; rw [if_neg (by omega)]; exact la
      have l3n : ln h3 (a + 1) = cap (i + 1) := by rw [eh3]; exact ln_mkc
      have k3l : kd h3 li = 1 := by rw [eh3, kd_mkc_ne (by omega), k2, hk]
      have r3 : ar h3 a = ar h a := by rw [eh3]; show (if a = a + 1 then _ else ar h2 a) = _; rw [if_neg (by omega), a2]
      obtain ⟨h4, eh4⟩ : ∃ h4, h4 = sarow h3 (a + 1) (va_cpy (ar h3 a) (ar h3 (a + 1)) 0 0 (cap i)) := ⟨_, rfl⟩
      have cp : xcpq h3 a 0 (a + 1) 0 (nI (cap i)) = some h4 := by
        unfold xcpq
        have t0 : ((0 : Int32)).toNatClampNeg = 0 := by decide
        rw [nI_clamp (by omega), t0, if_pos, eh4]
        constructor
        · unfold xcp
          rw [nI_clamp (by omega), t0, k3, k3n, l3, l3n]
          have z0 : ¬ (0 : Int32) < 0 := by decide
          have z1 : ¬ nI (cap i) < 0 := nI_pos (by omega)
          have z2 : 0 + cap i ≤ cap i := by omega
          have z3 : 0 + cap i ≤ cap (i + 1) := by omega
          simp only [z0, z1, z2, z3, not_false_eq_true, decide_true, Bool.and_self]
        · rw [List.all_eq_true]
          intro j hj
          have hj' : j < cap i := List.mem_range.mp hj
          rw [Nat.zero_add, r3, e5 j (by omega)]
          show (decide (1 ≤ kd h3 (el j)) && decide (kd h3 (el j) ≤ 14)) = true
          have hb := hnb j (by omega)
          have := hel j (by omega)
          rw [eh3, kd_mkc_ne (by omega), k2]
          simp [this]
      have g0 : f_J7_copyOf_1904c h2 a (nI (cap (i + 1))) = some (a + 1, h4) := by
        unfold f_J7_copyOf_1904c f_J7_copyOf_6403c f_J7_copyOf_6403c_b24 xgC
        have zc : ¬ nI (cap (i + 1)) < nI (cap i) := by rw [nI_ltI (by omega) (by omega)]; omega
        rw [if_pos ka, obs, gl1 (by rw [ka]; decide), obs, if_pos rfl, nI_clamp (by omega), if_pos (by omega), gl2 (by rw [ka]; decide) (by rw [k2, h93]; decide), obs, xna_ok kza (by omega), obs, ← eh3, xal_23 k3, obs, l3, if_neg zc, cp, obs, obs]
      have k4 : kd h4 = kd h3 := by rw [eh4]; rfl
      have g1 : f_Jx4a65c_grow_92f84 h2 li (nI (n + 1)) = some (a + 1, sfr h4 li 1 (some (a + 1))) := by
        unfold f_Jx4a65c_grow_92f84 f_Jx4a65c_grow_92f84_b20
        rw [if_pos (show kd h2 li = 0 + 1 by rw [k2]; exact hk), xgr_ok (show kd h2 li = 0 + 1 by rw [k2]; exact hk), f2, e1, obs, xal_23 ka, obs, la, if_pos c4, hnc, c3, obs, obs, gl2 (by rw [k2]; exact hli0) (by rw [k2]; exact hli0), obs, g0, obs]
        simp only []
        rw [xpr_ok (show kd h4 li = 0 + 1 by rw [k4]; exact k3l) (by rw [k4, k3n]; decide), obs]
      have g2 : f_Jx4a65c_grow_d5877 h2 li = some (a + 1, sfr h4 li 1 (some (a + 1))) := by
        unfold f_Jx4a65c_grow_d5877
        rw [if_pos (show kd h2 li = 0 + 1 by rw [k2]; exact hk), xgi_ok (show kd h2 li = 0 + 1 by rw [k2]; exact hk), i2, obs, gl1 (by rw [k2]; exact hli0), obs, nI_1, g1, obs]
      have b3 := hb11 (sfr h4 li 1 (some (a + 1))) (a + 1) (cap (i + 1)) (show kd h4 li = 1 by rw [k4]; exact k3l) (show kd h4 (a + 1) = 23 by rw [k4]; exact k3n) (show ln h4 (a + 1) = cap (i + 1) by rw [eh4]; exact l3n) (by omega) (by omega) (by
        show 1 ≤ kd h4 v ∧ kd h4 v ≤ 14
        rw [k4, eh3, kd_mkc_ne (by omega), k2]; exact hv)
      refine ⟨sfi (sar (sfr h4 li 1 (some (a + 1))) (a + 1) n (some v)) li 2 (nI (n + 1)), ?_, Or.inr ⟨i + 1, by omega, ?_, ?_, ?_, by omega, ?_, ?_⟩, ?_, ?_, ?_⟩
      · rw [pre, e1, obs]
        unfold f_Jx4a65c_add_72be8
        rw [if_pos (show kd h2 li = 0 + 1 by rw [k2]; exact hk), xal_23 ka, obs, la, if_pos (by rw [hnc]), gl3 (by rw [k2]; exact hli0) (by rw [k2]; exact hv0) (by rw [ka]; decide), obs, g2, obs]
        simp only []
        rw [b3, obs]
      · show fr (sfr h4 li 1 (some (a + 1))) li 1 = some (400 + 8 * li + (i + 1))
        rw [fr_sfr, if_pos ⟨rfl, rfl⟩, ea]; rfl
      · show kd h4 (400 + 8 * li + (i + 1)) = 23
        rw [k4, show 400 + 8 * li + (i + 1) = a + 1 by omega]; exact k3n
      · show ln h4 (400 + 8 * li + (i + 1)) = cap (i + 1)
        rw [show 400 + 8 * li + (i + 1) = a + 1 by omega, eh4]; exact l3n
      · intro j hj
        rw [show 400 + 8 * li + (i + 1) = a + 1 by omega]
        show ar (sar (sfr h4 li 1 (some (a + 1))) (a + 1) n (some v)) (a + 1) j = some (el j)
        rw [ar_sar]
        by_cases ej : j = n
        · rw [if_pos ⟨rfl, ej⟩, ej, he]
        · rw [if_neg (fun z => ej z.2)]
          show ar h4 (a + 1) j = some (el j)
          rw [eh4]
          show va_up h3.2.2.2.2.2 (a + 1) (va_cpy (ar h3 a) (ar h3 (a + 1)) 0 0 (cap i)) (a + 1) j = some (el j)
          rw [va_up_eq]
          unfold va_cpy
          rw [if_pos (by omega), r3, Nat.zero_add, Nat.sub_zero]
          exact e5 j (by omega)
      · intro i' h1 h3'
        show kd h4 (400 + 8 * li + i') = 0
        rw [k4, eh3, kd_mkc_ne (by omega), k2]
        exact e6 i' (by omega) h3'
      · rw [fi_sfi, if_pos ⟨rfl, rfl⟩]
      · show kd h4 li = 1
        rw [k4]; exact k3l
      · intro r hr hb
        have q1 : EQR h2 h3 r := by rw [eh3]; exact EQR.mkc (by omega)
        have q2 : EQR h3 h4 r := by rw [eh4]; exact EQR.sarow (by omega)
        exact (((Q2 r hr).trans q1).trans q2).trans ((EQR.sfr hr).trans ((EQR.sar (by omega)).trans (EQR.sfi hr)))
theorem LZ.eq {li : Nat} {el : Nat → Nat} (Z : LZ h li n el) (q : EQR h h' li) (q2 : ∀ i, i < 8 → EQR h h' (400 + 8 * li + i)) : LZ h' li n el := by
  rcases Z with ⟨n0, fr0, kz⟩ | ⟨i, hi, e1, e2, e3, e4, e5, e6⟩
  · exact Or.inl ⟨n0, by rw [q.2.2.2.1]; exact fr0, fun i hi => by rw [(q2 i hi).1]; exact kz i hi⟩
  · refine Or.inr ⟨i, hi, by rw [q.2.2.2.1]; exact e1, by rw [(q2 i (by omega)).1]; exact e2, by rw [(q2 i (by omega)).2.1]; exact e3, e4, fun j hj => by rw [(q2 i (by omega)).2.2.2.2.2]; exact e5 j hj, fun i' h1 h2 => by rw [(q2 i' h2).1]; exact e6 i' h1 h2⟩
/-- a thing more: what the relation sees -/
theorem DD.nw {c m : Nat} (D : DD h σ) (hc : ct σ c = m) (hc' : ct σ' c = m + 1) (ho : ∀ d, d ≠ c → (d = 0 ∨ d = 26 ∨ d = 46 ∨ 100 ≤ d) → ct σ' d = ct σ d)
    (eI : ∀ q ∈ dI, fi h' q.1 q.2.1 = σ'.1 q.2.2) (eC : ∀ q ∈ dC, fi h' q.1 = fi h q.1) (eF : ∀ q ∈ dF, ∀ j, j < ct σ q.2.2.2.1 → fi h' (q.1 + j) = fi h (q.1 + j) ∧ σ'.2 q.2.2.1 j = σ.2 q.2.2.1 j)
    (nF : ∀ q ∈ dF, q.2.2.2.1 = c → fi h' (q.1 + m) q.2.1 = σ'.2 q.2.2.1 m) (eA : ∀ q ∈ dA, ai h' q.1 = ai h q.1 ∧ σ'.2 q.2.2.2.1 = σ.2 q.2.2.2.1)
    (eB : ∀ q ∈ dB, ∀ j, j < ct σ q.2.2.2.1 → ai h' (q.1 + j) = ai h (q.1 + j)) (eB2 : ∀ q ∈ dB, σ'.2 q.2.2.1 = σ.2 q.2.2.1) (nB : ∀ q ∈ dB, q.2.2.2.1 = c → ∀ i, i < q.2.1 → ai h' (q.1 + m) i = σ.2 q.2.2.1 (q.2.1 * m + i)) : DD h' σ' := by
  obtain ⟨d1, d2, d3, d4, d5⟩ := D
  have tF : ∀ q ∈ dF, (q.2.2.2.1 = 0 ∨ q.2.2.2.1 = 26 ∨ q.2.2.2.1 = 46 ∨ 100 ≤ q.2.2.2.1) := by decide
  have tB : ∀ q ∈ dB, (q.2.2.2.1 = 0 ∨ q.2.2.2.1 = 26 ∨ q.2.2.2.1 = 46 ∨ 100 ≤ q.2.2.2.1) := by decide
  refine ⟨eI, fun q hq => by rw [eC q hq]; exact d2 q hq, fun q hq j hj => ?_, fun q hq j hj => by rw [(eA q hq).1, (eA q hq).2]; exact d4 q hq j hj, fun q hq j hj i hi => ?_⟩
  · by_cases e : q.2.2.2.1 = c
    · rw [e, hc'] at hj
      by_cases ej : j = m
      · rw [ej]; exact nF q hq e
      · have hj2 : j < ct σ q.2.2.2.1 := by rw [e, hc]; omega
        rw [(eF q hq j hj2).1, (eF q hq j hj2).2]; exact d3 q hq j hj2
    · rw [ho _ e (tF q hq)] at hj
      rw [(eF q hq j hj).1, (eF q hq j hj).2]; exact d3 q hq j hj
  · rw [eB2 q hq]
    by_cases e : q.2.2.2.1 = c
    · rw [e, hc'] at hj
      by_cases ej : j = m
      · rw [ej]; exact nB q hq e i hi
      · have hj2 : j < ct σ q.2.2.2.1 := by rw [e, hc]; omega
        rw [eB q hq j hj2]; exact d5 q hq j hj2 i hi
    · rw [ho _ e (tB q hq)] at hj
      rw [eB q hq j hj]; exact d5 q hq j hj i hi
/-- the world with new things in it -/
theorem CS.of3 {tr' : Nat → Nat} {u' : Nat} (C : CS h σ tr u) (e : ∀ r, r < 10 ∨ (14 ≤ r ∧ r < 100) ∨ 9000 ≤ r → EQR h h' r) (ek : ∀ r, 10 ≤ r → r < 14 → kd h' r = 1) (D : DD h' σ') (ob : OB h' σ') (cr : CR h' σ') (ac : AC h' σ')
    (g7 : σ'.1 7 = σ.1 7) (g8 : σ'.2 8 = σ.2 8) (g9 : σ'.2 9 = σ.2 9) (g10 : σ'.2 10 = σ.2 10) (g62 : σ'.2 62 = σ.2 62) (tm : TM h' σ' tr' u') (l1 : LZ h' 10 (cn σ' 0) (fun j => 200 + j)) (l2 : LZ h' 12 (cn σ' 26) (fun j => 300 + j)) (l3 : LZ h' 13 (cn σ' 46) (fun j => 210 + j)) : CS h' σ' tr' u' := by
  obtain ⟨⟨k1, k2, k3, k4⟩, ⟨s1, s2, s3, s4, s5⟩, -, -, -, -, tt, tp, -, -, -, -⟩ := C
  have tr : ∀ q ∈ cfr, q.1 < 10 ∨ (14 ≤ q.1 ∧ q.1 < 100) := by decide
  have tk : ∀ q ∈ ckd, (q.1 < 10 ∨ (14 ≤ q.1 ∧ q.1 < 100)) ∨ (10 ≤ q.1 ∧ q.1 < 14 ∧ q.2 = 1) := by decide
  have tl : ∀ q ∈ cln, q.1 < 10 ∨ (14 ≤ q.1 ∧ q.1 < 100) := by decide
  have c7 : cn σ' 7 = cn σ 7 := by unfold cn; rw [g7]
  have hcix : ∀ i, cix σ' i = cix σ i := fun i => by unfold cix; rw [g8, g9]
  have hlN : ∀ k c, lN_ σ' k c = lN_ σ k c := by
    intro k
    induction k with
    | zero => intro c; rfl
    | succ k ih => intro c; unfold lN_; rw [hcix, ih]
  refine ⟨⟨fun q hq => ?_, fun q hq => ?_, fun q hq => ?_, fun j hj => ?_⟩, ⟨?_, ?_, ?_, ?_, ?_⟩, D, ob, cr, ac, ⟨?_, ?_⟩, ?_, tm, l1, l2, l3⟩
  · rw [(e q.1 (by have := tr q hq; omega)).2.2.2.1]; exact k1 q hq
  · rcases tk q hq with z | ⟨z1, z2, z3⟩
    · rw [(e q.1 (by omega)).1]; exact k2 q hq
    · rw [ek q.1 z1 z2, z3]
  · rw [(e q.1 (by have := tl q hq; omega)).2.1]; exact k3 q hq
  · rw [(e 22 (by omega)).2.2.2.2.2]; exact k4 j hj
  · rw [(e 9001 (by omega)).1, (e 9001 (by omega)).2.1, (e 9001 (by omega)).2.2.2.2.1]; exact s1
  · rw [(e 9002 (by omega)).1, (e 9002 (by omega)).2.1, (e 9002 (by omega)).2.2.2.2.1]; exact s2
  · intro i hi
    rw [(e (9100 + i) (by omega)).1, (e (9120 + i) (by omega)).1, (e (9120 + i) (by omega)).2.1, (e (9120 + i) (by omega)).2.2.2.2.1]; exact s3 i hi
  · rw [(e 9200 (by omega)).1, (e 9200 (by omega)).2.1]; exact s4
  · rw [(e 9300 (by omega)).1]; exact s5
  · intro c hc
    rw [(e 30 (by omega)).2.2.2.2.1, c7, hlN]; exact tt.1 c hc
  · intro j hj
    rw [c7] at hj
    rw [(e 31 (by omega)).2.2.2.2.1, (e 32 (by omega)).2.2.2.2.1, hlN, hcix, g10]; exact tt.2 j hj
  · unfold TP; rw [(e 33 (by omega)).2.2.2.2.1, g62]; exact tp
theorem TM.eq (T : TM h σ tr u) (q : EQR h h' 11) (q2 : ∀ i, i < 8 → EQR h h' (400 + 8 * 11 + i)) (q3 : ∀ r, 1000 ≤ r → r < 9000 → EQR h h' r) (hu : u ≤ 900) (g13 : σ'.1 13 = σ.1 13) (g : ∀ k, 14 ≤ k → k ≤ 24 → σ'.2 k = σ.2 k) : TM h' σ' tr u := by
  obtain ⟨t1, t2, t3⟩ := T
  have c13 : cn σ' 13 = cn σ 13 := by unfold cn; rw [g13]
  unfold TM
  rw [c13]
  refine ⟨t1.eq q q2, fun t ht => ⟨(t2 t ht).1, ?_⟩, ?_⟩
  · have e := (t2 t ht).2
    have hb := (t2 t ht).1
    unfold TM1 cs at e ⊢
    have b0 := q3 (1000 + 8 * tr t) (by omega) (by omega)
    have b1 := q3 (1000 + 8 * tr t + 1) (by omega) (by omega)
    have b2 := q3 (1000 + 8 * tr t + 2) (by omega) (by omega)
    have b3 := q3 (1000 + 8 * tr t + 3) (by omega) (by omega)
    have b4 := q3 (1000 + 8 * tr t + 4) (by omega) (by omega)
    have b5 := q3 (1000 + 8 * tr t + 5) (by omega) (by omega)
    have bl : ∀ d, d < 5 → ln h' (1000 + 8 * tr t + 1 + d) = ln h (1000 + 8 * tr t + 1 + d) := fun d hd => (q3 _ (by omega) (by omega)).2.1
    rw [b0.1, b1.1, b2.1, b3.1, b4.1, b5.1, b0.2.2.1, b0.2.2.2.1, b1.2.2.2.2.1, b2.2.2.2.2.1, b3.2.2.2.2.1, b4.2.2.2.2.1, b5.2.2.2.2.1, g 14 (by omega) (by omega), g 15 (by omega) (by omega), g 16 (by omega) (by omega), g 17 (by omega) (by omega), g 18 (by omega) (by omega), g 19 (by omega) (by omega), g 20 (by omega) (by omega), g 21 (by omega) (by omega), g 22 (by omega) (by omega), g 23 (by omega) (by omega), g 24 (by omega) (by omega)]
    refine ⟨e.1, fun d hd => ?_, e.2.2⟩
    rw [bl d hd]
    exact e.2.1 d hd
  · refine ⟨fun i h1 h2 d hd => ?_, fun i hi => ?_⟩
    · rw [(q3 (1000 + 8 * i + d) (by omega) (by omega)).1]; exact t3.1 i h1 h2 d hd
    · rw [(q3 (1000 + 8 * i) (by omega) (by omega)).1]; exact t3.2 i hi
end
