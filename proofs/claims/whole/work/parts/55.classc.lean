/-! ===== the class: what a term pays ===== -/
def RW (h : AH) (r : Nat) (wt : Nat → Int32) : Prop := kd h r = 20 ∧ ln h r = 12 ∧ ∀ w, w < 12 → ai h r w = wt w
theorem RW.x {h : AH} {r w : Nat} {wt : Nat → Int32} (H : RW h r wt) (hw : w < 12) : xia h r (nI w) = some (wt w) := xia_of H.1 H.2.1 hw (by decide) (H.2.2 w hw)
section
variable {h : AH} {σ : SG} {tr : Nat → Nat} {u N : Nat} {wt ls : Nat → Int32} {r a e : Nat}
theorem c_sumFrom (H : RW h r wt) (he : e < 12) (ha : a < 100) (hN : 100 < N) : f_X10_sumFrom h N r (nI a) (nI e) = some (sumW wt a (e + 1 - a)) := by
  unfold f_X10_sumFrom
  refine lpC (fun n i x => f_X10_sumFrom_b5 h N n r (nI e) x (nI i)) (fun w x => x + wt w) a (a + (e + 1 - a)) (fun a => some a) ?_ ?_ (m := e + 1 - a) rfl (by omega)
  · intro n x
    have q : e < a + (e + 1 - a) := by omega
    simp (disch := omega) only [f_X10_sumFrom_b5, f_X10_sumFrom_b5_body, obs, b10, b01, bm, if_true_, if_false_, eq_self, not_true_eq_false, not_false_eq_true, true_or, or_true, or_false, false_or, and_true, true_and, and_false, false_and, or_self, and_self, Bool.false_eq_true, ite_self, n25, n20, n24, n100, nI_ltI, q]
  · intro n i x hl hi
    have q : ¬ e < i := by omega
    simp (disch := omega) only [f_X10_sumFrom_b5, f_X10_sumFrom_b5_body, obs, b10, b01, bm, if_true_, if_false_, eq_self, not_true_eq_false, not_false_eq_true, true_or, or_true, or_false, false_or, and_true, true_and, and_false, false_and, or_self, and_self, Bool.false_eq_true, ite_self, n25, n20, n24, n100, nI_ltI, q, RW.x H, nI_1]
theorem c_longestDry (H : RW h r wt) {dr : Int32} (he : e < 12) (ha : a < 100) (hN : 100 < N) : f_X10_longestDry h N r (nI a) (nI e) dr = some (dryW wt dr a (e + 1 - a)) := by
  unfold f_X10_longestDry
  refine (lpA (fun n i x => f_X10_longestDry_b9 h N n r (nI e) dr x.2 x.1 (nI i)) (dryS wt dr) (a + (e + 1 - a)) (fun a => some a.2) (fun i x => a ≤ i ∧ 0 ≤ x.2) ?_ ?_ (e + 1 - a) N a (0, 0) rfl (by omega) ⟨Nat.le_refl a, by decide⟩).1
  · intro n x _
    have q : e < a + (e + 1 - a) := by omega
    simp (disch := omega) only [f_X10_longestDry_b9, f_X10_longestDry_b9_body, obs, b10, b01, bm, if_true_, if_false_, eq_self, not_true_eq_false, not_false_eq_true, true_or, or_true, or_false, false_or, and_true, true_and, and_false, false_and, or_self, and_self, Bool.false_eq_true, ite_self, n25, n20, n24, n100, nI_ltI, q]
  · intro n i x hi ⟨hl, hx⟩
    have q : ¬ e < i := by omega
    refine ⟨?_, by omega, ?_⟩
    · by_cases q2 : dr ≤ wt i <;> by_cases q3 : x.1 + 1 ≤ x.2 <;> simp (disch := omega) only [f_X10_longestDry_b9, f_X10_longestDry_b9_body, f_X10_longestDry_b31, f_X10_longestDry_b44, obs, b10, b01, bm, if_true_, if_false_, eq_self, not_true_eq_false, not_false_eq_true, true_or, or_true, or_false, false_or, and_true, true_and, and_false, false_and, or_self, and_self, Bool.false_eq_true, ite_self, n25, n20, n24, n100, nI_ltI, q, RW.x H, nI_1, dryS, q2, q3, hx]
    · unfold dryS
      split
      · simp only [hx, if_true_]
      · simp only
        rename_i q2
        split
        · exact hx
        · rename_i q3
          exact Int32.le_of_lt (Int32.lt_of_le_of_lt hx (Int32.not_le.mp q3))
theorem c_greatest (H : RW h r wt) (he : e < 12) (ha : a < 100) (hN : 100 < N) : f_X10_greatest h N r (nI a) (nI e) = some (grnW wt a (e + 1 - a)) := by
  unfold f_X10_greatest
  refine lpC (fun n i x => f_X10_greatest_b5 h N n r (nI e) x (nI i)) (fun w x => if wt w ≤ x then x else wt w) a (a + (e + 1 - a)) (fun a => some a) ?_ ?_ (m := e + 1 - a) rfl (by omega)
  · intro n x
    have q : e < a + (e + 1 - a) := by omega
    simp (disch := omega) only [f_X10_greatest_b5, f_X10_greatest_b5_body, obs, b10, b01, bm, if_true_, if_false_, eq_self, not_true_eq_false, not_false_eq_true, true_or, or_true, or_false, false_or, and_true, true_and, and_false, false_and, or_self, and_self, Bool.false_eq_true, ite_self, n25, n20, n24, n100, nI_ltI, q]
  · intro n i x hl hi
    have q : ¬ e < i := by omega
    by_cases q2 : wt i ≤ x <;> simp (disch := omega) only [f_X10_greatest_b5, f_X10_greatest_b5_body, f_X10_greatest_b24, obs, b10, b01, bm, if_true_, if_false_, eq_self, not_true_eq_false, not_false_eq_true, true_or, or_true, or_false, false_or, and_true, true_and, and_false, false_and, or_self, and_self, Bool.false_eq_true, ite_self, n25, n20, n24, n100, nI_ltI, q, RW.x H, nI_1, q2]
def msW (σ : SG) (wt ls : Nat → Int32) (c p : Nat) (dr : Int32) : Int32 :=
  if σ.2 20 c = 8 then sumW wt (cA σ c + p) (rgM σ c p) else if σ.2 20 c = 9 then dryW wt dr (cA σ c + p) (rgM σ c p)
  else if σ.2 20 c = 10 then grnW ls (cA σ c + p) (rgM σ c p) else if cA σ c + p < 12 then wt (cA σ c + p) else -1
theorem TM1.x {h : AH} {b t d i : Nat} {v : Int32} (T : TM1 h σ b t) (hd : d < 5) (hi : i < 4) (hk : d ≠ 3) (e : ai h (b + 1 + d) i = v) : xia h (b + 1 + d) (nI i) = some v := by
  refine xia_of ?_ (T.2.1 d hd).1 hi (by decide) e
  obtain ⟨⟨-, e1, e2, e3, e4, e5⟩, -⟩ := T
  rcases d with _ | _ | _ | _ | _ | d
  · exact e1
  · exact e2
  · exact e3
  · omega
  · exact e5
  · omega
theorem TM1.q {h : AH} {b t d : Nat} (T : TM1 h σ b t) (hd : d < 5) : xgr h b 11 (6 + d) = some (b + 1 + d) := by
  unfold xgr
  rw [if_pos T.1.1]
  exact (T.2.1 d hd).2
theorem TM1.i {h : AH} {b t f : Nat} (T : TM1 h σ b t) : xgi h b 11 f = some (fi h b f) := by
  unfold xgi
  rw [if_pos T.1.1]
theorem mn11 {b p : Nat} (hb : b ≤ 11) (hp : p < 6) : (if (11 : Int32) < nI (b + p) then (11 : Int32) else nI (b + p)) = nI (min (b + p) 11) := by
  rw [lt11]
  by_cases q : 11 < b + p
  · rw [if_pos (nI_lt q (by omega)), Nat.min_eq_right (by omega)]
  · rw [if_neg (fun c => q ((nI_ltI (by omega) (by omega)).mp c)), Nat.min_eq_left (by omega)]
theorem c_measure {h : AH} {b t i p c : Nat} {dr : Int32} (T : TM1 h σ b t) (hc : c = 4 * t + i) (hi : i < cs σ t) (hi4 : i < 4) (hw : CW σ c) (hkc : (σ.2 14 t = 0 ∧ CK σ c) ∨ (σ.2 14 t = 1 ∧ i = 0)) (H1 : RW h 26 wt) (H2 : RW h 27 ls) (hp : p < 6) (hN : 100 < N) :
    f_X10_measure h N b (nI i) 26 27 (nI p) dr = some (if σ.2 14 t = 0 then msW σ wt ls c p dr else sumW wt (cA σ c + p) (rgM σ c p)) := by
  obtain ⟨e1, e2, e3, e4⟩ := hw
  have hm : min (cB σ c + p) 11 + 1 - (cA σ c + p) = rgM σ c p := by unfold rgM; omega
  have k7 : xgr h b 11 7 = some (b + 2) := T.q (d := 1) (by omega)
  have k8 : xgr h b 11 8 = some (b + 3) := T.q (d := 2) (by omega)
  have k6 : xgr h b 11 6 = some (b + 1) := T.q (d := 0) (by omega)
  have x2 : xia h (b + 2) (nI i) = some (nI (cA σ c)) := T.x (d := 1) (by omega) hi4 (by omega) (by rw [(T.2.2.2.1 i hi).1, ← hc, e1])
  have x3 : xia h (b + 3) (nI i) = some (nI (cB σ c)) := T.x (d := 2) (by omega) hi4 (by omega) (by rw [(T.2.2.2.1 i hi).2, ← hc, e2])
  have hb : min (cB σ c + p) 11 < 12 := by omega
  have hs := c_sumFrom (N := N) (a := cA σ c + p) (e := min (cB σ c + p) 11) H1 hb (by omega) hN
  have hd := c_longestDry (N := N) (a := cA σ c + p) (e := min (cB σ c + p) 11) (dr := dr) H1 hb (by omega) hN
  have hg := c_greatest (N := N) (a := cA σ c + p) (e := min (cB σ c + p) 11) H2 hb (by omega) hN
  rw [hm] at hs hd hg
  rcases hkc with ⟨r0, hkk, -⟩ | ⟨r1, i0⟩
  · rw [if_pos r0]
    have hT : ai h (b + 1) i = σ.2 20 c - 8 := by
      rcases T.2.2.2.2 with ⟨_, q⟩ | ⟨q, _⟩
      · rw [(q i hi).1, hc]
      · rw [r0] at q; exact absurd q (by decide)
    have x1 : xia h (b + 1) (nI i) = some (σ.2 20 c - 8) := T.x (d := 0) (by omega) hi4 (by omega) hT
    unfold msW
    rcases hkk with k | k | k | ⟨k, k'⟩
    · rw [k] at x1 ⊢
      have z : ((8 : Int32) - 8 = 0) = True := by decide
      simp (disch := omega) only [f_X10_measure, obs, b10, b01, bm, if_true_, if_false_, eq_self, not_true_eq_false, not_false_eq_true, true_or, or_true, or_false, false_or, and_true, true_and, and_false, false_and, or_self, and_self, Bool.false_eq_true, ite_self, n25, n20, n24, n100, T.1.1, k6, k7, k8, x1, x2, x3, nI_add, mn11, z, hs]
    · rw [k] at x1 ⊢
      have z : ((9 : Int32) - 8 = 0) = False := by decide
      have z1 : ((9 : Int32) - 8 = 1) = True := by decide
      have z2 : ((9 : Int32) = 8) = False := by decide
      simp (disch := omega) only [f_X10_measure, obs, b10, b01, bm, if_true_, if_false_, eq_self, not_true_eq_false, not_false_eq_true, true_or, or_true, or_false, false_or, and_true, true_and, and_false, false_and, or_self, and_self, Bool.false_eq_true, ite_self, n25, n20, n24, n100, T.1.1, k6, k7, k8, x1, x2, x3, nI_add, mn11, z, z1, z2, hd]
    · rw [k] at x1 ⊢
      have z : ((10 : Int32) - 8 = 0) = False := by decide
      have z1 : ((10 : Int32) - 8 = 1) = False := by decide
      have z3 : ((10 : Int32) - 8 = 2) = True := by decide
      have z2 : ((10 : Int32) = 8) = False := by decide
      have z4 : ((10 : Int32) = 9) = False := by decide
      simp (disch := omega) only [f_X10_measure, obs, b10, b01, bm, if_true_, if_false_, eq_self, not_true_eq_false, not_false_eq_true, true_or, or_true, or_false, false_or, and_true, true_and, and_false, false_and, or_self, and_self, Bool.false_eq_true, ite_self, n25, n20, n24, n100, T.1.1, k6, k7, k8, x1, x2, x3, nI_add, mn11, z, z1, z2, z3, z4, hg]
    · rw [k] at x1 ⊢
      have z : ((11 : Int32) - 8 = 0) = False := by decide
      have z1 : ((11 : Int32) - 8 = 1) = False := by decide
      have z3 : ((11 : Int32) - 8 = 2) = False := by decide
      have z2 : ((11 : Int32) = 8) = False := by decide
      have z4 : ((11 : Int32) = 9) = False := by decide
      have z5 : ((11 : Int32) = 10) = False := by decide
      by_cases q : cA σ c + p < 12
      · have q' : ¬ 12 ≤ cA σ c + p := by omega
        simp (disch := omega) only [f_X10_measure, obs, b10, b01, bm, if_true_, if_false_, eq_self, not_true_eq_false, not_false_eq_true, true_or, or_true, or_false, false_or, and_true, true_and, and_false, false_and, or_self, and_self, Bool.false_eq_true, ite_self, n25, n20, n24, n100, T.1.1, k6, k7, k8, x1, x2, x3, nI_add, mn11, z, z1, z2, z3, z4, z5, lt12, nI_leI, q, q', RW.x H1]
      · have q' : 12 ≤ cA σ c + p := by omega
        simp (disch := omega) only [f_X10_measure, obs, b10, b01, bm, if_true_, if_false_, eq_self, not_true_eq_false, not_false_eq_true, true_or, or_true, or_false, false_or, and_true, true_and, and_false, false_and, or_self, and_self, Bool.false_eq_true, ite_self, n25, n20, n24, n100, T.1.1, k6, k7, k8, x1, x2, x3, nI_add, mn11, z, z1, z2, z3, z4, z5, lt12, nI_leI, q, q']
  · have r10 : ¬ σ.2 14 t = 0 := by rw [r1]; decide
    rw [if_neg r10]
    have hT : ai h (b + 1) i = 0 := by
      rcases T.2.2.2.2 with ⟨q, _⟩ | ⟨_, q, _⟩
      · exact absurd q r10
      · rw [i0]; exact q
    have x1 : xia h (b + 1) (nI i) = some 0 := T.x (d := 0) (by omega) hi4 (by omega) hT
    simp (disch := omega) only [f_X10_measure, obs, b10, b01, bm, if_true_, if_false_, eq_self, not_true_eq_false, not_false_eq_true, true_or, or_true, or_false, false_or, and_true, true_and, and_false, false_and, or_self, and_self, Bool.false_eq_true, ite_self, n25, n20, n24, n100, T.1.1, k6, k7, k8, x1, x2, x3, nI_add, mn11, hs]
theorem so_ms {c p : Nat} {dr : Int32} (hw : CW σ c) (hk : CK σ c) (hb : ∀ w, w < 12 → bd (wt w) 10000) (hp : p < 6) : soW σ wt ls c p dr = (!decide (msW σ wt ls c p dr = -1) && cmpW σ c (msW σ wt ls c p dr)) := by
  obtain ⟨e1, e2, e3, e4⟩ := hw
  have hm : rgM σ c p < 100 := by unfold rgM; omega
  have n1 : ¬ sumW wt (cA σ c + p) (rgM σ c p) = -1 := bd_ne (sumW_bd (fun w h1 h2 => hb w (by unfold rgM at h2; omega))) (by omega)
  have n2 : ¬ dryW wt dr (cA σ c + p) (rgM σ c p) = -1 := bd_ne (dryW_bd hm) (by omega)
  unfold soW msW
  rcases hk.1 with k | k | k | ⟨k, k'⟩
  · rw [if_pos k, if_pos k, decide_eq_false n1]
    rfl
  · have z2 : ¬ ((9 : Int32) = 8) := by decide
    rw [k, if_neg z2, if_neg z2, if_pos rfl, if_pos rfl, decide_eq_false n2]
    rfl
  · have z2 : ¬ ((10 : Int32) = 8) := by decide
    have z3 : ¬ ((10 : Int32) = 9) := by decide
    rw [k, if_neg z2, if_neg z2, if_neg z3, if_neg z3, if_pos rfl, if_pos rfl]
  · have z2 : ¬ ((11 : Int32) = 8) := by decide
    have z3 : ¬ ((11 : Int32) = 9) := by decide
    have z4 : ¬ ((11 : Int32) = 10) := by decide
    rw [k, if_neg z2, if_neg z2, if_neg z3, if_neg z3, if_neg z4, if_neg z4]
    by_cases q : cA σ c + p < 12
    · rw [if_pos q, decide_eq_true q]
      have e : sumW wt (cA σ c + p) (rgM σ c p) = wt (cA σ c + p) := by
        have : rgM σ c p = 1 := by unfold rgM; omega
        rw [this]
        show 0 + wt (cA σ c + p) = wt (cA σ c + p)
        exact Int32.zero_add _
      rw [e] at n1 ⊢
      rw [decide_eq_false n1]
      rfl
    · rw [if_neg q, decide_eq_false q]
      rfl
theorem c_amountFor {h : AH} {b t p : Nat} {dr : Int32} (T : TM1 h σ b t) (hw : TW σ t) (H1 : RW h 26 wt) (H2 : RW h 27 ls) (hb : ∀ w, w < 12 → bd (wt w) 10000) (hp : p < 6) (hN : 100 < N) : f_X10_amountFor h N b 26 27 (nI p) dr = some (payW σ wt ls t p dr) := by
  obtain ⟨⟨c1, c2, c3⟩, cw, ck, b15, b17, b18⟩ := hw
  unfold payW
  rcases ck with ⟨r0, ck⟩ | ⟨r1, b16⟩
  · rw [if_pos r0]
    simp only [f_X10_amountFor, obs, b10, b01, bm, if_true_, if_false_, eq_self, not_true_eq_false, not_false_eq_true, true_or, or_true, or_false, false_or, and_true, true_and, and_false, false_and, or_self, and_self, Bool.false_eq_true, ite_self, n25, n20, n24, n100, T.1.1, T.i, T.2.2.1.1, r0]
    rw [show fnd (fun c => soW σ wt ls c p dr = false) (4 * t) (cs σ t) = (fnd (fun i => soW σ wt ls (4 * t + i) p dr = false) 0 (cs σ t)).map (fun i => 4 * t + i) from fnd_shift (p := fun c => soW σ wt ls c p dr = false) (o := 4 * t) (i := 0)]
    rw [show (0 : Int32) = nI 0 by decide]
    rw [lpF (fun n i => f_X10_amountFor_b25 h N n b 26 27 (nI p) dr (nI i)) (fun i => soW σ wt ls (4 * t + i) p dr = false) (cs σ t) (fun o => some (if o = none then σ.2 15 t else 0)) ?_ ?_ (m := cs σ t) (i := 0) (by omega) (by omega)]
    · rcases fnd (fun i => soW σ wt ls (4 * t + i) p dr = false) 0 (cs σ t) with _ | x
      · rfl
      · rfl
    · intro n
      simp (disch := omega) only [f_X10_amountFor_b25, f_X10_amountFor_b25_body, obs, b10, b01, bm, if_true_, if_false_, eq_self, not_true_eq_false, not_false_eq_true, true_or, or_true, or_false, false_or, and_true, true_and, and_false, false_and, or_self, and_self, Bool.false_eq_true, ite_self, n25, n20, n24, n100, T.i, T.2.2.1.2.2, T.2.2.1.2.1, c1, nI_leI, Nat.le_refl]
    · intro n i hi
      have hn : ¬ cs σ t ≤ i := by omega
      have hT : ai h (b + 4) i = 1 - σ.2 24 (4 * t + i) ∧ ai h (b + 5) i = σ.2 23 (4 * t + i) := by
        rcases T.2.2.2.2 with ⟨_, q⟩ | ⟨q, _⟩
        · exact (q i hi).2
        · rw [r0] at q; exact absurd q (by decide)
      have k9 : xgr h b 11 9 = some (b + 4) := T.q (d := 3) (by omega)
      have k10 : xgr h b 11 10 = some (b + 5) := T.q (d := 4) (by omega)
      have x5 : xia h (b + 5) (nI i) = some (σ.2 23 (4 * t + i)) := T.x (d := 4) (by omega) (by omega) (by omega) hT.2
      have x4 : xba h (b + 4) (nI i) = some (1 - σ.2 24 (4 * t + i)) := by
        unfold xba
        rw [if_pos ⟨Or.inl T.1.2.2.2.2.1, by rw [show ln h (b + 4) = 4 from (T.2.1 3 (by omega)).1]; exact nI_in (by omega) (by decide)⟩, nI_clamp (by omega), hT.1]
      have hme := c_measure (N := N) (dr := dr) T rfl hi (by omega) (cw i hi) (Or.inl ⟨r0, ck i hi⟩) H1 H2 hp hN
      rw [if_pos r0] at hme
      have hso := so_ms (wt := wt) (ls := ls) (dr := dr) (cw i hi) (ck i hi) hb hp
      unfold cmpW at hso
      have z0 : ((1 : Int32) - 0 = 0) = False := by decide
      have z1 : ((1 : Int32) - 1 = 0) = True := by decide
      by_cases q1 : msW σ wt ls (4 * t + i) p dr = -1
      · simp (disch := omega) only [f_X10_amountFor_b25, f_X10_amountFor_b25_body, f_X10_amountFor_b94, f_X10_amountFor_b95, obs, b10, b01, bm, if_true_, if_false_, eq_self, not_true_eq_false, not_false_eq_true, true_or, or_true, or_false, false_or, and_true, true_and, and_false, false_and, or_self, and_self, Bool.false_eq_true, ite_self, n25, n20, n24, n100, T.i, T.2.2.1.2.2, c1, nI_leI, hn, hme, q1, hso, decide_true, Bool.not_true, Bool.false_and, reduceCtorEq]
      · rcases (ck i hi).2 with l | l
        · rw [l] at hso x4
          by_cases q2 : msW σ wt ls (4 * t + i) p dr ≤ σ.2 23 (4 * t + i)
          · simp (disch := omega) only [f_X10_amountFor_b25, f_X10_amountFor_b25_body, f_X10_amountFor_b94, f_X10_amountFor_b95, obs, b10, b01, bm, if_true_, if_false_, eq_self, not_true_eq_false, not_false_eq_true, true_or, or_true, or_false, false_or, and_true, true_and, and_false, false_and, or_self, and_self, Bool.false_eq_true, ite_self, n25, n20, n24, n100, T.i, T.2.2.1.2.2, c1, nI_leI, hn, hme, q1, k9, k10, x4, x5, z0, q2, hso, decide_true, decide_false, Bool.not_true, Bool.not_false, Bool.false_and, Bool.true_and, Bool.true_eq_false, reduceCtorEq]
          · simp (disch := omega) only [f_X10_amountFor_b25, f_X10_amountFor_b25_body, f_X10_amountFor_b90, f_X10_amountFor_b95, obs, b10, b01, bm, if_true_, if_false_, eq_self, not_true_eq_false, not_false_eq_true, true_or, or_true, or_false, false_or, and_true, true_and, and_false, false_and, or_self, and_self, Bool.false_eq_true, ite_self, n25, n20, n24, n100, T.i, T.2.2.1.2.2, c1, nI_leI, hn, hme, q1, k9, k10, x4, x5, z0, q2, hso, decide_true, decide_false, Bool.not_true, Bool.not_false, Bool.false_and, Bool.true_and, Bool.true_eq_false, nI_1]
        · rw [l] at hso x4
          by_cases q2 : σ.2 23 (4 * t + i) ≤ msW σ wt ls (4 * t + i) p dr
          · simp (disch := omega) only [f_X10_amountFor_b25, f_X10_amountFor_b25_body, f_X10_amountFor_b94, f_X10_amountFor_b95, obs, b10, b01, bm, if_true_, if_false_, eq_self, not_true_eq_false, not_false_eq_true, true_or, or_true, or_false, false_or, and_true, true_and, and_false, false_and, or_self, and_self, Bool.false_eq_true, ite_self, n25, n20, n24, n100, T.i, T.2.2.1.2.2, c1, nI_leI, hn, hme, q1, k9, k10, x4, x5, z1, q2, hso, decide_true, decide_false, Bool.not_true, Bool.not_false, Bool.false_and, Bool.true_and, Bool.true_eq_false, reduceCtorEq]
          · simp (disch := omega) only [f_X10_amountFor_b25, f_X10_amountFor_b25_body, f_X10_amountFor_b90, f_X10_amountFor_b95, obs, b10, b01, bm, if_true_, if_false_, eq_self, not_true_eq_false, not_false_eq_true, true_or, or_true, or_false, false_or, and_true, true_and, and_false, false_and, or_self, and_self, Bool.false_eq_true, ite_self, n25, n20, n24, n100, T.i, T.2.2.1.2.2, c1, nI_leI, hn, hme, q1, k9, k10, x4, x5, z1, q2, hso, decide_true, decide_false, Bool.not_true, Bool.not_false, Bool.false_and, Bool.true_and, Bool.true_eq_false, nI_1]
  · have r10 : ¬ σ.2 14 t = 0 := by rw [r1]; decide
    rw [if_neg r10]
    obtain ⟨j, hj, ej⟩ := b16
    have e16 : σ.2 16 t = nI (j + 1) := by
      have : σ.2 16 t - 1 + 1 = nI j + 1 := by rw [ej]
      rwa [Int32.sub_add_cancel, nI_1] at this
    have hT : fi h b 2 = σ.2 16 t ∧ fi h b 3 = σ.2 17 t ∧ fi h b 4 = σ.2 18 t := by
      rcases T.2.2.2.2 with ⟨q, _⟩ | ⟨_, _, q⟩
      · exact absurd q r10
      · exact q
    have hme := c_measure (N := N) (dr := dr) T rfl (show 0 < cs σ t by omega) (by omega) (cw 0 (by omega)) (Or.inr ⟨r1, rfl⟩) H1 H2 hp hN
    rw [if_neg r10, Nat.add_zero, show nI 0 = 0 by decide] at hme
    have p16 : (0 : Int32) < nI (j + 1) := by rw [lt0]; exact nI_lt (by omega) (by omega)
    have z16 : ¬ nI (j + 1) = 0 := nI_ne0 (by omega) (by omega)
    obtain ⟨k18, hk18, e18⟩ := b18
    simp only [f_X10_amountFor, f_X10_rateFor, f_X10_rateFor_b15, obs, b10, b01, bm, if_true_, if_false_, eq_self, not_true_eq_false, not_false_eq_true, true_or, or_true, or_false, false_or, and_true, true_and, and_false, false_and, or_self, and_self, Bool.false_eq_true, ite_self, n25, n20, n24, n100, T.1.1, T.i, T.2.2.1.1, T.2.2.1.2.1, r10, hme, hT, e16, p16, z16]
    by_cases q : σ.2 17 t ≤ sumW wt (cA σ (4 * t) + p) (rgM σ (4 * t) p)
    · rw [if_pos q, if_pos q, obs, e18]
      by_cases q2 : nI k18 ≤ 0
      · rw [if_pos q2]
        have : k18 = 0 := by
          rw [lt0, nI_leI (by omega) (by omega)] at q2
          omega
        rw [this]
        rfl
      · rw [if_neg q2]
    · rw [if_neg q, if_neg q, obs]
      rw [Int32.mul_comm (σ.2 15 t)]
      congr 1
      by_cases q2 : σ.2 18 t < (σ.2 17 t - sumW wt (cA σ (4 * t) + p) (rgM σ (4 * t) p)) / nI (j + 1) * σ.2 15 t
      · rw [if_pos q2, if_pos (Int32.le_of_lt q2)]
      · rw [if_neg q2]
        by_cases q3 : σ.2 18 t ≤ (σ.2 17 t - sumW wt (cA σ (4 * t) + p) (rgM σ (4 * t) p)) / nI (j + 1) * σ.2 15 t
        · rw [if_pos q3]
          exact Int32.le_antisymm (Int32.not_lt.mp q2) q3
        · rw [if_neg q3]
end
