/-! ===== public: foretold ===== -/
section
variable {L N : Nat} {xs : Nat → Int32} {h h' : AH} {σ σ' : SG} {tr : Nat → Nat} {u n : Nat}
def ssp (s w s' i : Nat) : Nat := if i < w then s else s'
theorem ssp_lt {s w s' i : Nat} (hs : s < 16) (hs' : s' < 16) : ssp s w s' i < 16 := by
  unfold ssp
  split
  · exact hs
  · exact hs'
def foV (σ : SG) (t g p k s w s' : Nat) : Int32 := payW σ (wetR σ (R0 σ) g (ssp s w s')) (lushR σ (G0 σ) g (ssp s w s')) t p (σ.2 25 k)
def foS (σ : SG) (t g p k s w i : Nat) (y : Int32 × Int32 × Int32 × Int32) : Int32 × Int32 × Int32 × Int32 := if i = s then y else if knowO σ g i then (if y.2.2.2 = 0 then foV σ t g p k s w i else if y.1 ≤ foV σ t g p k s w i then y.1 else foV σ t g p k s w i, if foV σ t g p k s w i ≤ y.2.1 then y.2.1 else foV σ t g p k s w i, y.2.2.1 + foV σ t g p k s w i, y.2.2.2 + 1) else y
def foX (σ : SG) (t g p k s w : Nat) : Int32 × Int32 × Int32 × Int32 := itr (foS σ t g p k s w) 0 16 (0, 0, 0, 0)
def foA (v : Int32) (y : Int32 × Int32 × Int32 × Int32) : Int32 := if v = 0 then y.1 else if v = 1 then y.2.1 else if v = 2 then y.2.2.1 else y.2.2.2
theorem c_gatherSp (C : CS h σ tr u) (W : WV σ) {g s w s' : Nat} (hg : g < cn σ 0) (hs : s < 16) (hs' : s' < 16) (hw : w ≤ 12) (hN : 1000 < N) : ∃ h', f_X11_gatherSpliced h N 1 (nI g) (nI s) (nI w) (nI s') = some h' ∧ SCR h h' ∧ ∀ i, i < 12 → ai h' 26 i = wetR σ (R0 σ) g (ssp s w s') i ∧ ai h' 27 i = lushR σ (G0 σ) g (ssp s w s') i := by
  have hG := W.1.g
  have hTl := W.1.tl
  obtain ⟨x, hx, ex⟩ := W.2.1 (1, 0, 200) (by decide) g hg
  simp only at ex
  have hxl : x < 100 := hx
  have hd : (8 : Int32) + nI x / 25 = nI (8 + x / 25) := by rw [lt25, lt8, nI_div (by omega) (by decide), nI_add]
  have hl2 : ∀ i, lushR σ (G0 σ) g (ssp s w s') i = vK σ (cn σ 7) (sp (8 + x / 25) (ssp s w s' i) i) := by
    intro i
    show vK σ (cn σ 7) (1536 + sp ((σ.2 1 g).toNatClampNeg / 25) (ssp s w s' i) i) = _
    rw [ex, nI_clamp (by omega), sp8]
  have hd12 : 8 + x / 25 < 12 := by omega
  generalize 8 + x / 25 = dd at hd hl2 hd12
  unfold f_X11_gatherSpliced
  rw [if_pos (kk1 C), kr1_0 C, obs, kg10 C W.1 hg, obs, kc200 C hg, obs, kf200_0 C hg, obs, ex, n25, hd]
  refine (lpS (σ := AH) (α := Unit) (fun n i h _ => f_X11_gatherSpliced_b25 N n h 1 (nI g) (nI s) (nI w) (nI s') (nI dd) (nI i)) (fun _ a => a) 12 (fun h' _ => some h') (fun i h' _ => SCR h h' ∧ ∀ j, j < i → ai h' 26 j = wetR σ (R0 σ) g (ssp s w s') j ∧ ai h' 27 j = lushR σ (G0 σ) g (ssp s w s') j) ?_ ?_ 12 N 0 h () (by omega) (by omega) ⟨SCR.refl, fun j hj => absurd hj (by omega)⟩).elim (fun h' e => ⟨h', e.1, e.2⟩)
  · intro n h' _ _
    simp (disch := omega) only [f_X11_gatherSpliced_b25, f_X11_gatherSpliced_b25_body, obs, b10, b01, bm, if_true_, if_false_, eq_self, not_true_eq_false, not_false_eq_true, true_or, or_true, or_false, false_or, and_true, true_and, and_false, false_and, or_self, and_self, Bool.false_eq_true, ite_self, n25, n20, n24, n100, lt12, nI_leI, Nat.le_refl]
  · intro n i h' _ hi ⟨S, hw2⟩
    have C' := C.scr S
    have hn : ¬ (12 : Int32) ≤ nI i := by rw [lt12, nI_leI (by omega) (by omega)]; omega
    have S2 : SCR h' (sai h' 26 i (wetR σ (R0 σ) g (ssp s w s') i)) := SCR.w (by omega) (by omega)
    have C2 := C'.scr S2
    have S3 : SCR (sai h' 26 i (wetR σ (R0 σ) g (ssp s w s') i)) (sai (sai h' 26 i (wetR σ (R0 σ) g (ssp s w s') i)) 27 i (lushR σ (G0 σ) g (ssp s w s') i)) := SCR.w (by omega) (by omega)
    have hss : ssp s w s' i < 16 := ssp_lt hs hs'
    have x1 : xis h' 26 (nI i) (wetR σ (R0 σ) g (ssp s w s') i) = some _ := xis_of (kk26 C') (kl C' (by decide)) hi (by decide)
    have x2 : xis (sai h' 26 i (wetR σ (R0 σ) g (ssp s w s') i)) 27 (nI i) (lushR σ (G0 σ) g (ssp s w s') i) = some _ := xis_of (kk27 C2) (kl C2 (by decide)) hi (by decide)
    have hf : f_X11_fill h' N 1 (nI g) (nI (ssp s w s' i)) (nI i) (nI (cn σ 7)) = some (wetR σ (R0 σ) g (ssp s w s') i) := c_fill C' W hg hss hi (by omega) hN
    have hk := c_asKnown (N := N) C2 W.1 (r := dd) (s := ssp s w s' i) (w := i) (k := cn σ 7) hd12 hss hi (by omega) hN
    have e44 : ∀ K, f_X11_gatherSpliced_b44 N K h' 1 (nI g) (nI s) (nI w) (nI s') (nI dd) (nI i) (nI (ssp s w s' i)) = K (sai (sai h' 26 i (wetR σ (R0 σ) g (ssp s w s') i)) 27 i (lushR σ (G0 σ) g (ssp s w s') i)) 1 (nI g) (nI s) (nI w) (nI s') (nI dd) (nI (i + 1)) := by
      intro K
      unfold f_X11_gatherSpliced_b44
      rw [kr1_16 C', obs, c_now C' W.1, obs, hf, obs, x1, obs, kr1_17 C2, obs, kr1_4 C2, obs, c_now C2 W.1, obs, hk, obs, ← hl2, x2, obs, nI_1]
    refine ⟨_, ?_, (S.trans S2).trans S3, ?_⟩
    · show f_X11_gatherSpliced_b25_body N (f_X11_gatherSpliced_b25 N n) h' 1 (nI g) (nI s) (nI w) (nI s') (nI dd) (nI i) = _
      unfold f_X11_gatherSpliced_b25_body
      rw [if_neg hn]
      have e4 := e44 (f_X11_gatherSpliced_b25 N n)
      by_cases q : w ≤ i
      · have hq : ssp s w s' i = s' := by unfold ssp; rw [if_neg (by omega)]
        rw [if_pos ((nI_leI (by omega) (by omega)).mpr q)]
        rw [hq] at e4
        exact e4
      · have hq : ssp s w s' i = s := by unfold ssp; rw [if_pos (by omega)]
        rw [if_neg (fun z => q ((nI_leI (by omega) (by omega)).mp z))]
        rw [hq] at e4
        exact e4
    · intro j hj
      rw [ai_sai_ne (show 26 ≠ 27 by omega), ai_sai, ai_sai]
      by_cases q : j = i
      · subst q
        simp
      · rw [if_neg (by omega), if_neg (by omega), ai_sai_ne (show 27 ≠ 26 by omega)]
        exact hw2 j (by omega)
def sa (σ : SG) (x y : Int32) : SG := s1 (s1 σ 72 x) 73 y
theorem sa_72 {x y v : Int32} (H : RS h (sa σ x y)) : RS (sfi h 100 72 v) (sa σ v y) := by
  refine (H.fi 72 v).cg (fun k => ?_) (fun _ _ _ => rfl)
  unfold sa
  rw [s1_ite, s1_ite, s1_ite, s1_ite, s1_ite]
  by_cases e : k = 73
  · rw [if_pos e, if_neg (by omega), if_pos e]
  · rw [if_neg e, if_neg e]
    by_cases e2 : k = 72
    · rw [if_pos e2, if_pos e2]
    · rw [if_neg e2, if_neg e2, if_neg e2]
theorem sa_73 {x y v : Int32} (H : RS h (sa σ x y)) : RS (sfi h 100 73 v) (sa σ x v) := by
  have := H.fi 73 v
  unfold sa at this ⊢
  rw [s1_s1] at this
  exact this
theorem sa_self (H : RS h σ) (e : σ.1 73 = 12) : RS h (sa σ (σ.1 72) 12) := by
  unfold sa
  rw [s1_self, ← e, s1_self]
  exact H
theorem sa_sge {x y : Int32} : SGE σ (sa σ x y) := by
  refine ⟨fun k hk => ?_, fun _ _ _ _ => rfl⟩
  unfold sa
  rw [s1_ne (by omega), s1_ne (by omega)]
theorem sa_W {x : Int32} (W : WV σ) : WV (sa σ x 12) := W.sg sa_sge (fun _ _ => rfl) (fun _ _ => rfl) s1_eq
theorem sa_CT {x y : Int32} (W : CT σ) : CT (sa σ x y) := by
  intro q hq
  have t : ∀ q ∈ cmax, q.1 < 69 := by decide
  have e := (sa_sge (σ := σ) (x := x) (y := y)).1 q.1 (t q hq)
  unfold cn
  rw [e]
  exact W q hq
theorem r_foV {t g p k s w i : Nat} {x : Int32} (H : RS h (sa σ x 12)) (W : WV σ) (ht : t < cn σ 13) (hg : g < cn σ 0) (hp : p < 6) (hk : k < 4) (hs : s < 16) (hi : i < 16) (hw : w ≤ 12) (hN : 100 < N) : f_X12_payOf (sfi (sfi h 100 72 (nI i)) 100 73 (nI w)) N 100 0 (nI t) (nI g) (nI s) (nI p) (nI k) = some (foV σ t g p k s w i) := by
  have hG := W.1.g
  have hT := W.1.t
  have H2 := sa_73 (v := nI w) (sa_72 (v := nI i) H)
  have T : TB (sa σ (nI i) (nI w)) 0 (R0 σ) (G0 σ) := TB0 W
  have A : AL (sa σ (nI i) (nI w)) s (ssp s w i) := by
    intro j hj
    have e73 : (sa σ (nI i) (nI w)).1 73 = nI w := s1_eq
    have e72 : (sa σ (nI i) (nI w)).1 72 = nI i := by unfold sa; rw [s1_ne (by decide), s1_eq]
    refine ⟨?_, ssp_lt hs hi⟩
    rw [e73, e72]
    unfold ssp
    by_cases q : j < w
    · rw [if_pos (nI_lt q (by omega)), if_pos q]
    · rw [if_neg (fun z => q ((nI_ltI (by omega) (by omega)).mp z)), if_neg q]
  exact r_payOf H2 (sa_CT W.1) T A (by omega) (wv1 W hg) (by omega) (W.2.2.2.2.2 t ht) hp hk hN
theorem pub_foretold {a b c d e f v : Int32} (I : INV L xs h σ tr u n) (hN : 2000 < N) : ∃ w h1 h2 σ' tr' u', f_X11_foretold h N 1 a b c d e f v = some (w, h1) ∧ f_X12_foretold h1 N 100 a b c d e f v = some (w, h2) ∧ (kd h1 9000 = 30 ∧ ln h1 9000 = L ∧ ai h1 9000 = xs) ∧ INV L xs h2 σ' tr' u' (n + 1) := by
  obtain ⟨C, H, W, X, S, U⟩ := id I
  have hG := W.1.g
  have hT := W.1.t
  have hTl := W.1.tl
  have ci12 : ∀ {h : AH} {v : Int32}, f_X11_within h v 0 12 = some (if ok v 13 then 1 else 0) := cin_ok (by decide) (by decide)
  have ri12 : ∀ {h : AH} {v : Int32}, f_X12_in h v 0 12 = some (if ok v 13 then 1 else 0) := in_ok (by decide) (by decide)
  rcases okC a (n := cn σ 13) (by omega) with oa | ⟨oa, t, ht, rfl⟩
  · exact ⟨-1, h, h, σ, tr, u, by simp only [f_X11_foretold, f_X11_isOffer, obs, b10, b01, bm, if_true_, if_false_, eq_self, not_true_eq_false, not_false_eq_true, true_or, or_true, or_false, false_or, and_true, true_and, and_false, false_and, or_self, and_self, Bool.false_eq_true, ite_self, n25, n20, n24, n100, kk1 C, RS.kk H, c_isGauge C W.1, c_isTerm C W.1, c_isFarm C W.1, c_isSeason, c_isPlace, r_isGauge H W.1, r_isTerm H W.1, r_isFarm H W.1, r_isSeason, r_isWeek, r_isPlace, r_isSheet, ci1, ri1, ci2, ri2, ci3, ri3, ci4, ri4, ci5, ri5, ci11, ri11, ci16, ri16, ci98, ri98, ci99, ri99, ci198, ri198, ci9999, ri9999, oa], by simp only [f_X12_foretold, f_X12_isAsked, obs, b10, b01, bm, if_true_, if_false_, eq_self, not_true_eq_false, not_false_eq_true, true_or, or_true, or_false, false_or, and_true, true_and, and_false, false_and, or_self, and_self, Bool.false_eq_true, ite_self, n25, n20, n24, n100, kk1 C, RS.kk H, c_isGauge C W.1, c_isTerm C W.1, c_isFarm C W.1, c_isSeason, c_isPlace, r_isGauge H W.1, r_isTerm H W.1, r_isFarm H W.1, r_isSeason, r_isWeek, r_isPlace, r_isSheet, ci1, ri1, ci2, ri2, ci3, ri3, ci4, ri4, ci5, ri5, ci11, ri11, ci16, ri16, ci98, ri98, ci99, ri99, ci198, ri198, ci9999, ri9999, oa], S, I.up (by omega)⟩
  rcases okC b (n := cn σ 0) (by omega) with ob | ⟨ob, g, hg, rfl⟩
  · exact ⟨-1, h, h, σ, tr, u, by simp only [f_X11_foretold, f_X11_isOffer, obs, b10, b01, bm, if_true_, if_false_, eq_self, not_true_eq_false, not_false_eq_true, true_or, or_true, or_false, false_or, and_true, true_and, and_false, false_and, or_self, and_self, Bool.false_eq_true, ite_self, n25, n20, n24, n100, kk1 C, RS.kk H, c_isGauge C W.1, c_isTerm C W.1, c_isFarm C W.1, c_isSeason, c_isPlace, r_isGauge H W.1, r_isTerm H W.1, r_isFarm H W.1, r_isSeason, r_isWeek, r_isPlace, r_isSheet, ci1, ri1, ci2, ri2, ci3, ri3, ci4, ri4, ci5, ri5, ci11, ri11, ci16, ri16, ci98, ri98, ci99, ri99, ci198, ri198, ci9999, ri9999, oa, ob], by simp only [f_X12_foretold, f_X12_isAsked, obs, b10, b01, bm, if_true_, if_false_, eq_self, not_true_eq_false, not_false_eq_true, true_or, or_true, or_false, false_or, and_true, true_and, and_false, false_and, or_self, and_self, Bool.false_eq_true, ite_self, n25, n20, n24, n100, kk1 C, RS.kk H, c_isGauge C W.1, c_isTerm C W.1, c_isFarm C W.1, c_isSeason, c_isPlace, r_isGauge H W.1, r_isTerm H W.1, r_isFarm H W.1, r_isSeason, r_isWeek, r_isPlace, r_isSheet, ci1, ri1, ci2, ri2, ci3, ri3, ci4, ri4, ci5, ri5, ci11, ri11, ci16, ri16, ci98, ri98, ci99, ri99, ci198, ri198, ci9999, ri9999, oa, ob], S, I.up (by omega)⟩
  rcases okC e (n := 6) (by decide) with oe | ⟨oe, p, hp, rfl⟩
  · exact ⟨-1, h, h, σ, tr, u, by simp only [f_X11_foretold, f_X11_isOffer, obs, b10, b01, bm, if_true_, if_false_, eq_self, not_true_eq_false, not_false_eq_true, true_or, or_true, or_false, false_or, and_true, true_and, and_false, false_and, or_self, and_self, Bool.false_eq_true, ite_self, n25, n20, n24, n100, kk1 C, RS.kk H, c_isGauge C W.1, c_isTerm C W.1, c_isFarm C W.1, c_isSeason, c_isPlace, r_isGauge H W.1, r_isTerm H W.1, r_isFarm H W.1, r_isSeason, r_isWeek, r_isPlace, r_isSheet, ci1, ri1, ci2, ri2, ci3, ri3, ci4, ri4, ci5, ri5, ci11, ri11, ci16, ri16, ci98, ri98, ci99, ri99, ci198, ri198, ci9999, ri9999, oa, ob, oe], by simp only [f_X12_foretold, f_X12_isAsked, obs, b10, b01, bm, if_true_, if_false_, eq_self, not_true_eq_false, not_false_eq_true, true_or, or_true, or_false, false_or, and_true, true_and, and_false, false_and, or_self, and_self, Bool.false_eq_true, ite_self, n25, n20, n24, n100, kk1 C, RS.kk H, c_isGauge C W.1, c_isTerm C W.1, c_isFarm C W.1, c_isSeason, c_isPlace, r_isGauge H W.1, r_isTerm H W.1, r_isFarm H W.1, r_isSeason, r_isWeek, r_isPlace, r_isSheet, ci1, ri1, ci2, ri2, ci3, ri3, ci4, ri4, ci5, ri5, ci11, ri11, ci16, ri16, ci98, ri98, ci99, ri99, ci198, ri198, ci9999, ri9999, oa, ob, oe], S, I.up (by omega)⟩
  rcases okC f (n := 4) (by decide) with of | ⟨of, k, hk, rfl⟩
  · exact ⟨-1, h, h, σ, tr, u, by simp only [f_X11_foretold, f_X11_isOffer, obs, b10, b01, bm, if_true_, if_false_, eq_self, not_true_eq_false, not_false_eq_true, true_or, or_true, or_false, false_or, and_true, true_and, and_false, false_and, or_self, and_self, Bool.false_eq_true, ite_self, n25, n20, n24, n100, kk1 C, RS.kk H, c_isGauge C W.1, c_isTerm C W.1, c_isFarm C W.1, c_isSeason, c_isPlace, r_isGauge H W.1, r_isTerm H W.1, r_isFarm H W.1, r_isSeason, r_isWeek, r_isPlace, r_isSheet, ci1, ri1, ci2, ri2, ci3, ri3, ci4, ri4, ci5, ri5, ci11, ri11, ci16, ri16, ci98, ri98, ci99, ri99, ci198, ri198, ci9999, ri9999, oa, ob, oe, of], by simp only [f_X12_foretold, f_X12_isAsked, obs, b10, b01, bm, if_true_, if_false_, eq_self, not_true_eq_false, not_false_eq_true, true_or, or_true, or_false, false_or, and_true, true_and, and_false, false_and, or_self, and_self, Bool.false_eq_true, ite_self, n25, n20, n24, n100, kk1 C, RS.kk H, c_isGauge C W.1, c_isTerm C W.1, c_isFarm C W.1, c_isSeason, c_isPlace, r_isGauge H W.1, r_isTerm H W.1, r_isFarm H W.1, r_isSeason, r_isWeek, r_isPlace, r_isSheet, ci1, ri1, ci2, ri2, ci3, ri3, ci4, ri4, ci5, ri5, ci11, ri11, ci16, ri16, ci98, ri98, ci99, ri99, ci198, ri198, ci9999, ri9999, oa, ob, oe, of], S, I.up (by omega)⟩
  rcases okC c (n := 16) (by decide) with oc | ⟨oc, s, hs, rfl⟩
  · exact ⟨-1, h, h, σ, tr, u, by simp only [f_X11_foretold, f_X11_isOffer, obs, b10, b01, bm, if_true_, if_false_, eq_self, not_true_eq_false, not_false_eq_true, true_or, or_true, or_false, false_or, and_true, true_and, and_false, false_and, or_self, and_self, Bool.false_eq_true, ite_self, n25, n20, n24, n100, kk1 C, RS.kk H, c_isGauge C W.1, c_isTerm C W.1, c_isFarm C W.1, c_isSeason, c_isPlace, r_isGauge H W.1, r_isTerm H W.1, r_isFarm H W.1, r_isSeason, r_isWeek, r_isPlace, r_isSheet, ci1, ri1, ci2, ri2, ci3, ri3, ci4, ri4, ci5, ri5, ci11, ri11, ci16, ri16, ci98, ri98, ci99, ri99, ci198, ri198, ci9999, ri9999, oa, ob, oe, of, oc], by simp only [f_X12_foretold, f_X12_isAsked, obs, b10, b01, bm, if_true_, if_false_, eq_self, not_true_eq_false, not_false_eq_true, true_or, or_true, or_false, false_or, and_true, true_and, and_false, false_and, or_self, and_self, Bool.false_eq_true, ite_self, n25, n20, n24, n100, kk1 C, RS.kk H, c_isGauge C W.1, c_isTerm C W.1, c_isFarm C W.1, c_isSeason, c_isPlace, r_isGauge H W.1, r_isTerm H W.1, r_isFarm H W.1, r_isSeason, r_isWeek, r_isPlace, r_isSheet, ci1, ri1, ci2, ri2, ci3, ri3, ci4, ri4, ci5, ri5, ci11, ri11, ci16, ri16, ci98, ri98, ci99, ri99, ci198, ri198, ci9999, ri9999, oa, ob, oe, of, oc], S, I.up (by omega)⟩
  rcases okC d (n := 13) (by decide) with od | ⟨od, w, hw, rfl⟩
  · exact ⟨-1, h, h, σ, tr, u, by simp only [f_X11_foretold, f_X11_isOffer, obs, b10, b01, bm, if_true_, if_false_, eq_self, not_true_eq_false, not_false_eq_true, true_or, or_true, or_false, false_or, and_true, true_and, and_false, false_and, or_self, and_self, Bool.false_eq_true, ite_self, n25, n20, n24, n100, kk1 C, RS.kk H, c_isGauge C W.1, c_isTerm C W.1, c_isFarm C W.1, c_isSeason, c_isPlace, r_isGauge H W.1, r_isTerm H W.1, r_isFarm H W.1, r_isSeason, r_isWeek, r_isPlace, r_isSheet, ci1, ri1, ci2, ri2, ci3, ri3, ci4, ri4, ci5, ri5, ci11, ri11, ci16, ri16, ci98, ri98, ci99, ri99, ci198, ri198, ci9999, ri9999, ci12, oa, ob, oe, of, oc, od], by simp only [f_X12_foretold, f_X12_isAsked, obs, b10, b01, bm, if_true_, if_false_, eq_self, not_true_eq_false, not_false_eq_true, true_or, or_true, or_false, false_or, and_true, true_and, and_false, false_and, or_self, and_self, Bool.false_eq_true, ite_self, n25, n20, n24, n100, kk1 C, RS.kk H, c_isGauge C W.1, c_isTerm C W.1, c_isFarm C W.1, c_isSeason, c_isPlace, r_isGauge H W.1, r_isTerm H W.1, r_isFarm H W.1, r_isSeason, r_isWeek, r_isPlace, r_isSheet, ci1, ri1, ci2, ri2, ci3, ri3, ci4, ri4, ci5, ri5, ci11, ri11, ci16, ri16, ci98, ri98, ci99, ri99, ci198, ri198, ci9999, ri9999, ri12, oa, ob, oe, of, oc, od], S, I.up (by omega)⟩
  rcases okC v (n := 4) (by decide) with ov | ⟨ov, v, hv, rfl⟩
  · exact ⟨-1, h, h, σ, tr, u, by simp only [f_X11_foretold, f_X11_isOffer, obs, b10, b01, bm, if_true_, if_false_, eq_self, not_true_eq_false, not_false_eq_true, true_or, or_true, or_false, false_or, and_true, true_and, and_false, false_and, or_self, and_self, Bool.false_eq_true, ite_self, n25, n20, n24, n100, kk1 C, RS.kk H, c_isGauge C W.1, c_isTerm C W.1, c_isFarm C W.1, c_isSeason, c_isPlace, r_isGauge H W.1, r_isTerm H W.1, r_isFarm H W.1, r_isSeason, r_isWeek, r_isPlace, r_isSheet, ci1, ri1, ci2, ri2, ci3, ri3, ci4, ri4, ci5, ri5, ci11, ri11, ci16, ri16, ci98, ri98, ci99, ri99, ci198, ri198, ci9999, ri9999, ci12, oa, ob, oe, of, oc, od, ov], by simp only [f_X12_foretold, f_X12_isAsked, obs, b10, b01, bm, if_true_, if_false_, eq_self, not_true_eq_false, not_false_eq_true, true_or, or_true, or_false, false_or, and_true, true_and, and_false, false_and, or_self, and_self, Bool.false_eq_true, ite_self, n25, n20, n24, n100, kk1 C, RS.kk H, c_isGauge C W.1, c_isTerm C W.1, c_isFarm C W.1, c_isSeason, c_isPlace, r_isGauge H W.1, r_isTerm H W.1, r_isFarm H W.1, r_isSeason, r_isWeek, r_isPlace, r_isSheet, ci1, ri1, ci2, ri2, ci3, ri3, ci4, ri4, ci5, ri5, ci11, ri11, ci16, ri16, ci98, ri98, ci99, ri99, ci198, ri198, ci9999, ri9999, ri12, oa, ob, oe, of, oc, od, ov], S, I.up (by omega)⟩
  obtain ⟨h1, e1, S1⟩ : ∃ h1, f_X11_foretold_b60 N N h 1 (nI t) (nI g) (nI s) (nI w) (nI p) (nI k) (nI v) 0 0 0 0 0 = some (foA (nI v) (foX σ t g p k s w), h1) ∧ SCR h h1 := by
    refine (lpS (σ := AH) (α := Int32 × Int32 × Int32 × Int32) (fun n i h y => f_X11_foretold_b60 N n h 1 (nI t) (nI g) (nI s) (nI w) (nI p) (nI k) (nI v) y.1 y.2.1 y.2.2.1 y.2.2.2 (nI i)) (foS σ t g p k s w) 16 (fun h' y => some (foA (nI v) y, h')) (fun i h' _ => SCR h h') ?_ ?_ 16 N 0 h (0, 0, 0, 0) (by omega) (by omega) SCR.refl).elim (fun h' e => ⟨h', e.1, e.2⟩)
    · intro n h' y _
      have z20 : ((2 : Int32) = 0) = False := by decide
      have z21 : ((2 : Int32) = 1) = False := by decide
      by_cases z0 : nI v = 0 <;> by_cases z1 : nI v = 1 <;> by_cases z2 : nI v = 2 <;> simp (disch := omega) only [f_X11_foretold_b60, f_X11_foretold_b60_body, obs, b10, b01, bm, if_true_, if_false_, eq_self, not_true_eq_false, not_false_eq_true, true_or, or_true, or_false, false_or, and_true, true_and, and_false, false_and, or_self, and_self, Bool.false_eq_true, ite_self, n25, n20, n24, n100, lt16, nI_leI, Nat.le_refl, foA, z20, z21, z0, z1, z2]
    · intro n i h' y hi S
      have C' := C.scr S
      have hn : ¬ 16 ≤ i := by omega
      by_cases q0 : i = s
      · subst q0
        exact ⟨h', by simp (disch := omega) only [f_X11_foretold_b60, f_X11_foretold_b60_body, f_X11_foretold_b166, obs, b10, b01, bm, if_true_, if_false_, eq_self, not_true_eq_false, not_false_eq_true, true_or, or_true, or_false, false_or, and_true, true_and, and_false, false_and, or_self, and_self, Bool.false_eq_true, ite_self, n25, n20, n24, n100, lt16, nI_leI, hn, foS, nI_1], S⟩
      rcases q1 : knowO σ g i
      · exact ⟨h', by simp (disch := omega) only [f_X11_foretold_b60, f_X11_foretold_b60_body, f_X11_foretold_b166, obs, b10, b01, bm, if_true_, if_false_, eq_self, not_true_eq_false, not_false_eq_true, true_or, or_true, or_false, false_or, and_true, true_and, and_false, false_and, or_self, and_self, Bool.false_eq_true, ite_self, n25, n20, n24, n100, lt16, nI_leI, hn, nI_eq, q0, c_isKnown C' W, q1, foS, nI_1], S⟩
      obtain ⟨h2, e2, S2, hr⟩ := c_gatherSp (N := N) C' W hg hs hi (show w ≤ 12 by omega) (by omega)
      have C2 := C'.scr S2
      have H1 : RW h2 26 (wetR σ (R0 σ) g (ssp s w i)) := ⟨kk26 C2, kl C2 (by decide), fun j q => (hr j q).1⟩
      have H2 : RW h2 27 (lushR σ (G0 σ) g (ssp s w i)) := ⟨kk27 C2, kl C2 (by decide), fun j q => (hr j q).2⟩
      have hT' := (C2.2.2.2.2.2.2.2.2.1.2.1 t ht).2
      have hcc : xcc h2 (1000 + 8 * tr t) 11 = some () := by unfold xcc; rw [if_pos hT'.1.1]
      have ha := c_amountFor (N := N) (p := p) (dr := σ.2 25 k) hT' (W.2.2.2.2.2 t ht) H1 H2 (fun j _ => filled_bd (vK_RB W.2.2.2.1 (cn σ 7)) g _ j) hp (by omega)
      have ha' : f_X10_amountFor h2 N (1000 + 8 * tr t) 26 27 (nI p) (DRYL.getD k 0) = some (foV σ t g p k s w i) := by rw [W.2.2.2.2.1.1 k hk] at ha; rw [ha]; unfold foV; rw [W.2.2.2.2.1.1 k hk]
      refine ⟨h2, ?_, S.trans S2⟩
      generalize hV : foV σ t g p k s w i = V at ha'
      have hl : (V < y.1) = ¬ (y.1 ≤ V) := by rw [Int32.not_le]
      have hgt : (y.2.1 < V) = ¬ (V ≤ y.2.1) := by rw [Int32.not_le]
      by_cases z1 : y.2.2.2 = 0 <;> by_cases z2 : y.1 ≤ V <;> by_cases z3 : V ≤ y.2.1 <;> simp (disch := omega) only [f_X11_foretold_b60, f_X11_foretold_b60_body, f_X11_foretold_b145, f_X11_foretold_b166, obs, b10, b01, bm, if_true_, if_false_, eq_self, not_true_eq_false, not_false_eq_true, true_or, or_true, or_false, false_or, and_true, true_and, and_false, false_and, or_self, and_self, Bool.false_eq_true, ite_self, n25, n20, n24, n100, lt16, nI_leI, hn, nI_eq, q0, c_isKnown C' W, q1, e2, kr1_1 C2, kg11 C2 W.1, hcc, kr1_16 C2, kr1_17 C2, kdry C2, ha', hV, hl, hgt, z1, z2, z3, foS, nI_1]
  have I' := I.scr S1
  have H' := I'.2.1
  obtain ⟨h2, e2, F2, x, H2⟩ : ∃ h2, f_X12_foretold_b58 N N h1 100 (nI t) (nI g) (nI s) (nI w) (nI p) (nI k) (nI v) 0 0 0 0 0 = some (foA (nI v) (foX σ t g p k s w), h2) ∧ FRc h1 h2 ∧ ∃ x, RS h2 (sa σ x 12) := by
    refine (lpS (σ := AH) (α := Int32 × Int32 × Int32 × Int32) (fun n i h y => f_X12_foretold_b58 N n h 100 (nI t) (nI g) (nI s) (nI w) (nI p) (nI k) (nI v) y.1 y.2.1 y.2.2.1 y.2.2.2 (nI i)) (foS σ t g p k s w) 16 (fun h' y => some (foA (nI v) y, h')) (fun i h' _ => FRc h1 h' ∧ ∃ x, RS h' (sa σ x 12)) ?_ ?_ 16 N 0 h1 (0, 0, 0, 0) (by omega) (by omega) ⟨FRc.refl, _, sa_self H' W.2.2.2.2.1.2.2⟩).elim (fun h' e => ⟨h', e.1, e.2⟩)
    · intro n h' y _
      have z20 : ((2 : Int32) = 0) = False := by decide
      have z21 : ((2 : Int32) = 1) = False := by decide
      by_cases z0 : nI v = 0 <;> by_cases z1 : nI v = 1 <;> by_cases z2 : nI v = 2 <;> simp (disch := omega) only [f_X12_foretold_b58, f_X12_foretold_b58_body, obs, b10, b01, bm, if_true_, if_false_, eq_self, not_true_eq_false, not_false_eq_true, true_or, or_true, or_false, false_or, and_true, true_and, and_false, false_and, or_self, and_self, Bool.false_eq_true, ite_self, n25, n20, n24, n100, lt16, nI_leI, Nat.le_refl, foA, z20, z21, z0, z1, z2]
    · intro n i h' y hi ⟨F, x, Hx⟩
      have hn : ¬ 16 ≤ i := by omega
      by_cases q0 : i = s
      · subst q0
        exact ⟨h', by simp (disch := omega) only [f_X12_foretold_b58, f_X12_foretold_b58_body, f_X12_foretold_b160, obs, b10, b01, bm, if_true_, if_false_, eq_self, not_true_eq_false, not_false_eq_true, true_or, or_true, or_false, false_or, and_true, true_and, and_false, false_and, or_self, and_self, Bool.false_eq_true, ite_self, n25, n20, n24, n100, lt16, nI_leI, hn, foS, nI_1], F, x, Hx⟩
      have kn : f_X12_isKnown h' N 100 (nI g) (nI i) = some (if knowO σ g i then 1 else 0) := by rw [← knowO_sg (sa_sge (x := x) (y := 12)) g i]; exact r_isKnown Hx (sa_W W) (by omega) hi (by omega)
      rcases q1 : knowO σ g i
      · rw [q1] at kn
        exact ⟨h', by simp (disch := omega) only [f_X12_foretold_b58, f_X12_foretold_b58_body, f_X12_foretold_b160, obs, b10, b01, bm, if_true_, if_false_, eq_self, not_true_eq_false, not_false_eq_true, true_or, or_true, or_false, false_or, and_true, true_and, and_false, false_and, or_self, and_self, Bool.false_eq_true, ite_self, n25, n20, n24, n100, lt16, nI_leI, hn, nI_eq, q0, kn, q1, foS, nI_1], F, x, Hx⟩
      rw [q1] at kn
      have ha := r_foV (N := N) Hx W ht hg hp hk hs hi (show w ≤ 12 by omega) (by omega)
      have Hx2 := sa_72 (v := nI i) Hx
      have Hx3 := sa_73 (v := nI w) Hx2
      have Hx4 := sa_73 (v := 12) Hx3
      refine ⟨_, ?_, ((F.trans FRc.f).trans FRc.f).trans FRc.f, _, Hx4⟩
      generalize hV : foV σ t g p k s w i = V at ha
      by_cases z1 : y.2.2.2 = 0 <;> by_cases z2 : y.1 ≤ V <;> by_cases z3 : V ≤ y.2.1 <;> simp (disch := omega) only [f_X12_foretold_b58, f_X12_foretold_b58_body, f_X12_foretold_b125, f_X12_foretold_b132, f_X12_foretold_b148, f_X12_foretold_b160, obs, b10, b01, bm, if_true_, if_false_, eq_self, not_true_eq_false, not_false_eq_true, true_or, or_true, or_false, false_or, and_true, true_and, and_false, false_and, or_self, and_self, Bool.false_eq_true, ite_self, n25, n20, n24, n100, lt16, nI_leI, hn, nI_eq, q0, kn, q1, Hx.pi, Hx2.pi, Hx3.pi, ha, hV, z1, z2, z3, foS, nI_1]
  have I2 := I'.rf F2 H2 sa_sge (fun _ _ => rfl) (fun _ _ => rfl) s1_eq
  refine ⟨foA (nI v) (foX σ t g p k s w), h1, h2, sa σ x 12, tr, u, ?_, ?_, I'.2.2.2.2.1, I2.up (by omega)⟩
  · simp only [f_X11_foretold, f_X11_isOffer, obs, b10, b01, bm, if_true_, if_false_, eq_self, not_true_eq_false, not_false_eq_true, true_or, or_true, or_false, false_or, and_true, true_and, and_false, false_and, or_self, and_self, Bool.false_eq_true, ite_self, n25, n20, n24, n100, kk1 C, RS.kk H, c_isGauge C W.1, c_isTerm C W.1, c_isFarm C W.1, c_isSeason, c_isPlace, r_isGauge H W.1, r_isTerm H W.1, r_isFarm H W.1, r_isSeason, r_isWeek, r_isPlace, r_isSheet, ci1, ri1, ci2, ri2, ci3, ri3, ci4, ri4, ci5, ri5, ci11, ri11, ci16, ri16, ci98, ri98, ci99, ri99, ci198, ri198, ci9999, ri9999, ci12, oa, ob, oe, of, oc, od, ov, e1]
  · simp only [f_X12_foretold, f_X12_isAsked, obs, b10, b01, bm, if_true_, if_false_, eq_self, not_true_eq_false, not_false_eq_true, true_or, or_true, or_false, false_or, and_true, true_and, and_false, false_and, or_self, and_self, Bool.false_eq_true, ite_self, n25, n20, n24, n100, RS.kk H', ri3, ri5, ri12, r_isSeason, r_isTerm H' W.1, r_isGauge H' W.1, oa, ob, oe, of, oc, od, ov, e2]
end
