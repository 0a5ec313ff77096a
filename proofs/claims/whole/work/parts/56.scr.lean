/-! ===== rows that are used again ===== -/
def SCR (h h' : AH) : Prop := kd h' = kd h ∧ ln h' = ln h ∧ fi h' = fi h ∧ fr h' = fr h ∧ ar h' = ar h ∧ ∀ r, r < 26 ∨ 29 < r → ai h' r = ai h r
theorem SCR.refl {h : AH} : SCR h h := ⟨rfl, rfl, rfl, rfl, rfl, fun _ _ => rfl⟩
theorem SCR.trans {h h' h'' : AH} (a : SCR h h') (b : SCR h' h'') : SCR h h'' := by
  obtain ⟨a1, a2, a3, a4, a5, a6⟩ := a
  obtain ⟨b1, b2, b3, b4, b5, b6⟩ := b
  exact ⟨b1.trans a1, b2.trans a2, b3.trans a3, b4.trans a4, b5.trans a5, fun r hr => (b6 r hr).trans (a6 r hr)⟩
theorem ai_sai_ne {h : AH} {r i a : Nat} {x : Int32} (e : a ≠ r) : ai (sai h r i x) a = ai h a := by
  show up2 (ai h) r i x a = ai h a
  unfold up2 va_up
  rw [if_neg e]
theorem fi_sfi_ne {h : AH} {r i a : Nat} {x : Int32} (e : a ≠ r) : fi (sfi h r i x) a = fi h a := by
  show up2 (fi h) r i x a = fi h a
  unfold up2 va_up
  rw [if_neg e]
theorem SCR.w {h : AH} {r i : Nat} {x : Int32} (h1 : 26 ≤ r) (h2 : r ≤ 29) : SCR h (sai h r i x) := ⟨rfl, rfl, rfl, rfl, rfl, fun a ha => ai_sai_ne (by omega)⟩
section
variable {h h' : AH} {σ : SG} {tr : Nat → Nat} {u N : Nat}
theorem CS.scr (C : CS h σ tr u) (S : SCR h h') : CS h' σ tr u := by
  obtain ⟨e1, e2, e3, e4, e5, e6⟩ := S
  obtain ⟨k, ⟨s1, s2, s3, s4, s5⟩, ⟨d1, d2, d3, d4, d5⟩, ob, cr, ac, tt, tp, tm, l1, l2, l3⟩ := C
  have tA : ∀ p ∈ dA, p.1 < 26 ∨ 29 < p.1 := by decide
  have tB : ∀ p ∈ dB, 29 < p.1 := by decide
  refine ⟨?_, ⟨?_, ?_, ?_, ?_, ?_⟩, ⟨?_, ?_, ?_, ?_, ?_⟩, ?_, ?_, ?_, ?_, ?_, ?_, ?_, ?_, ?_⟩
  · unfold KS; rw [e1, e2, e4, e5]; exact k
  · rw [e1, e2, e6 _ (by omega)]; exact s1
  · rw [e1, e2, e6 _ (by omega)]; exact s2
  · intro i hi; rw [e1, e2, e6 _ (by omega)]; exact s3 i hi
  · rw [e1, e2]; exact s4
  · rw [e1]; exact s5
  · unfold DI; rw [e3]; exact d1
  · unfold DC; rw [e3]; exact d2
  · unfold DF; rw [e3]; exact d3
  · intro p hp j hj; rw [e6 _ (tA p hp)]; exact d4 p hp j hj
  · intro p hp j hj i hi; rw [e6 _ (by have := tB p hp; omega)]; exact d5 p hp j hj i hi
  · unfold OB; rw [e1]; exact ob
  · unfold CR; rw [e1, e2, e3, e4]; exact cr
  · unfold AC
    rw [e4, e3]
    rcases ac with q | ⟨j, q1, q2, q3, q4⟩
    · exact Or.inl q
    · exact Or.inr ⟨j, q1, q2, q3, fun i hi hr => by rw [e6 _ (by omega)]; exact q4 i hi hr⟩
  · unfold TT; rw [e6 30 (by omega), e6 31 (by omega), e6 32 (by omega)]; exact tt
  · unfold TP; rw [e6 33 (by omega)]; exact tp
  · obtain ⟨t1, t2, t3⟩ := tm
    refine ⟨?_, fun t ht => ⟨(t2 t ht).1, ?_⟩, ?_⟩
    · unfold LZ; rw [e1, e2, e4, e5]; exact t1
    · unfold TM1
      rw [e1, e2, e3, e4, e6 (1000 + 8 * tr t + 1) (by omega), e6 (1000 + 8 * tr t + 2) (by omega), e6 (1000 + 8 * tr t + 3) (by omega), e6 (1000 + 8 * tr t + 4) (by omega), e6 (1000 + 8 * tr t + 5) (by omega)]
      exact (t2 t ht).2
    · unfold TU; rw [e1]; exact t3
  · unfold LZ; rw [e1, e2, e4, e5]; exact l1
  · unfold LZ; rw [e1, e2, e4, e5]; exact l2
  · unfold LZ; rw [e1, e2, e4, e5]; exact l3
theorem RS.scr (H : RS h σ) (S : SCR h h') : RS h' σ := by
  obtain ⟨e1, e2, e3, e4, e5, e6⟩ := S
  obtain ⟨h1, h2, h3, h4⟩ := H
  refine ⟨by rw [e1]; exact h1, ?_, ?_, fun k hk => by rw [e6 _ (by omega)]; exact h4 k hk⟩
  · rw [e1, e2, e4]; exact h2
  · rw [e3]; exact h3
def GK (σ : SG) (k c : Nat) : Int32 := vK σ k (1536 + c)
theorem sp8 (d s w : Nat) : sp (8 + d) s w = 1536 + sp d s w := by unfold sp; omega
theorem c_payOn (C : CS h σ tr u) (W : WV σ) {t g s p k kk : Nat} (ht : t < cn σ 13) (hg : g < cn σ 0) (hs : s < 16) (hp : p < 6) (hk : k < 4) (hkk : kk < 2 ^ 31) (hN : 1000 < N) :
    ∃ h', f_X11_payOn h N 1 (nI t) (nI g) (nI s) (nI p) (nI k) (nI kk) = some (payW σ (wetR σ (vK σ kk) g (fun _ => s)) (lushR σ (GK σ kk) g (fun _ => s)) t p (σ.2 25 k), h') ∧ SCR h h' ∧ ai h' 28 = ai h 28 ∧ ai h' 29 = ai h 29 := by
  have hG := W.1.g
  obtain ⟨x, hx, ex⟩ := W.2.1 (1, 0, 200) (by decide) g hg
  simp only at ex
  have hxl : x < 100 := hx
  have hd : (8 : Int32) + nI x / 25 = nI (8 + x / 25) := by rw [lt25, lt8, nI_div (by omega) (by decide), nI_add]
  have hl2 : ∀ w, lushR σ (GK σ kk) g (fun _ => s) w = vK σ kk (sp (8 + x / 25) s w) := by
    intro w
    unfold lushR GK
    rw [ex, nI_clamp (by omega), sp8]
  have hd12 : 8 + x / 25 < 12 := by omega
  generalize 8 + x / 25 = dd at hd hl2 hd12
  have hTM := (C.2.2.2.2.2.2.2.2.1.2.1 t ht).2
  unfold f_X11_payOn
  rw [if_pos (kk1 C), kr1_0 C, obs, kg10 C W.1 hg, obs, kc200 C hg, obs, kf200_0 C hg, obs, ex, n25, hd]
  refine (lpS (σ := AH) (α := Unit) (fun n i h _ => f_X11_payOn_b25 N n h 1 (nI t) (nI g) (nI s) (nI p) (nI k) (nI kk) (nI dd) (nI i)) (fun _ a => a) 12 (fun h' _ => some (payW σ (wetR σ (vK σ kk) g (fun _ => s)) (lushR σ (GK σ kk) g (fun _ => s)) t p (σ.2 25 k), h'))
    (fun i h' _ => (SCR h h' ∧ ai h' 28 = ai h 28 ∧ ai h' 29 = ai h 29) ∧ ∀ w, w < i → ai h' 26 w = wetR σ (vK σ kk) g (fun _ => s) w ∧ ai h' 27 w = lushR σ (GK σ kk) g (fun _ => s) w) ?_ ?_ 12 N 0 h () (by omega) (by omega) ⟨⟨SCR.refl, rfl, rfl⟩, fun w hw => absurd hw (by omega)⟩).elim (fun h' e => ⟨h', e.1, e.2.1⟩)
  · intro n h' _ ⟨⟨S, _, _⟩, hw⟩
    have C' := C.scr S
    have H1 : RW h' 26 (wetR σ (vK σ kk) g (fun _ => s)) := ⟨kk26 C', kl C' (by decide), fun w q => (hw w q).1⟩
    have H2 : RW h' 27 (lushR σ (GK σ kk) g (fun _ => s)) := ⟨kk27 C', kl C' (by decide), fun w q => (hw w q).2⟩
    have hT' := (C'.2.2.2.2.2.2.2.2.1.2.1 t ht).2
    have hcc : xcc h' (1000 + 8 * tr t) 11 = some () := by unfold xcc; rw [if_pos hT'.1.1]
    have ha := c_amountFor (N := N) (p := p) (dr := σ.2 25 k) hT' (W.2.2.2.2.2 t ht) H1 H2 (fun w _ => filled_bd (vK_RB W.2.2.2.1 kk) g s w) hp (by omega)
    rw [W.2.2.2.2.1.1 k hk] at ha
    show f_X11_payOn_b25_body N _ h' 1 (nI t) (nI g) (nI s) (nI p) (nI k) (nI kk) (nI dd) (nI 12) = _
    unfold f_X11_payOn_b25_body
    rw [if_pos (by decide), kr1_1 C', obs, kg11 C' W.1 ht, obs, hcc, obs, kr1_16 C', obs, kr1_17 C', obs, kdry C' hk, obs, ha, obs, W.2.2.2.2.1.1 k hk]
  · intro n i h' _ hi ⟨⟨S, S8, S9⟩, hw⟩
    have C' := C.scr S
    have hn : ¬ (12 : Int32) ≤ nI i := by rw [lt12, nI_leI (by omega) (by omega)]; omega
    have S2 : SCR h' (sai h' 26 i (wetR σ (vK σ kk) g (fun _ => s) i)) := SCR.w (by omega) (by omega)
    have C2 := C'.scr S2
    have S3 : SCR (sai h' 26 i (wetR σ (vK σ kk) g (fun _ => s) i)) (sai (sai h' 26 i (wetR σ (vK σ kk) g (fun _ => s) i)) 27 i (lushR σ (GK σ kk) g (fun _ => s) i)) := SCR.w (by omega) (by omega)
    refine ⟨_, ?_, ⟨(S.trans S2).trans S3, by rw [ai_sai_ne (by omega), ai_sai_ne (by omega)]; exact S8, by rw [ai_sai_ne (by omega), ai_sai_ne (by omega)]; exact S9⟩, ?_⟩
    · show f_X11_payOn_b25_body N _ h' 1 (nI t) (nI g) (nI s) (nI p) (nI k) (nI kk) (nI dd) (nI i) = _
      unfold f_X11_payOn_b25_body
      have x1 : xis h' 26 (nI i) (wetR σ (vK σ kk) g (fun _ => s) i) = some _ := xis_of (kk26 C') (kl C' (by decide)) hi (by decide)
      have x2 : xis (sai h' 26 i (wetR σ (vK σ kk) g (fun _ => s) i)) 27 (nI i) (lushR σ (GK σ kk) g (fun _ => s) i) = some _ := xis_of (kk27 C2) (kl C2 (by decide)) hi (by decide)
      have hf : f_X11_fill h' N 1 (nI g) (nI s) (nI i) (nI kk) = some (wetR σ (vK σ kk) g (fun _ => s) i) := c_fill C' W hg hs hi hkk hN
      rw [if_neg hn, kr1_16 C', obs, hf, obs, x1, obs, kr1_17 C2, obs, kr1_4 C2, obs, c_asKnown C2 W.1 hd12 hs hi hkk hN, obs, ← hl2, x2, obs, nI_1]
    · intro w hww
      rw [ai_sai_ne (show 26 ≠ 27 by omega), ai_sai, ai_sai]
      by_cases q : w = i
      · subst q
        simp
      · rw [if_neg (by omega), if_neg (by omega), ai_sai_ne (show 27 ≠ 26 by omega)]
        exact hw w (by omega)
end
