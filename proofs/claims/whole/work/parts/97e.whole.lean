set_option maxRecDepth 100000 in
set_option maxHeartbeats 4000000 in
/-- the claim out of the law's function -/
theorem whole_of {p : Program} {e : Env} {s : State} {m : MethodId} {below : List Frame} {meth : Method} {c : Code} (l : Launch) {b L : Nat} {xs : Nat → Int32} (N : Nat) (hN : N ≤ 5000) (hf : ∃ h', f_L_law (hstart L xs) N 9000 = some (1, h')) (C0 : lw_At p s m meth c b L xs) : W p l e room_1 s m #[Value.ref b] below meth c s.heap [] 0 0 (lw_Z below #[Value.ref b] s) (entryFrame m ([Value.ref b] : List Value).toArray 4) := by
  obtain ⟨h', hf⟩ := hf
  obtain ⟨g, g1, g2, g3, g4, g5, g6, g7, g8, hKK⟩ := start_env C0
  obtain ⟨hx, hb, hr, hml, hown, hts, hX, hbl, hlocks, hgv⟩ := id C0
  have htU : ∀ w ∈ UW, w.before #[Value.ref b] s = true := fun w hw => hts w (List.mem_filter.mp hw).1
  have hV : HV g (rhos g) (hstart L xs) s.heap := start_HV g3 g4 g5 g6 g7 g8
  have hl := lv_entry ([.ref b]) (n := 4) (Nat.le_of_ble_eq_true rfl)
  rw [lg_entry_eq]
  generalize (lg_sl ([.ref b]) ++ List.replicate (4 - (lg_sl ([.ref b])).length) Slot.unset).toArray = ls at hl ⊢
  have er : rhos g 9000 = b := g2
  have hl2 : lv_has ls 4 (lm (rhos g) [(0, .ref 9000)]) := by
    show lv_has ls 4 [(0, Value.ref (rhos g 9000))]
    rw [er]
    exact hl
  have K := t_L_law (l := l) (g := g) (hstart L xs) N hN 9000 (1, h') hf p e s m #[Value.ref b] below meth c (rhos g) (rhos g) s.heap [] ls ⟨hx, hb, hml, hown, htU, hr, hlocks, hKK, fun hh => by cases hh⟩ AG.rf hV va_S.rf hl2
  intro T hT X
  obtain ⟨t, a1, oc, b1, b2, ⟨⟨ρ', -, ho, -⟩, -⟩, Lc, ⟨hret, hW, hsb⟩, hLc⟩ := K T hT X
  refine ⟨t, a1, oc, b1, b2, ho, hret, hW, hsb.weaken (fun x hx hlt => ?_) (Nat.le_refl _) (Nat.le_refl _)⟩
  have h9 : gbase g ≤ x.base := hLc x hx
  rw [g1] at h9
  exact absurd hlt (Nat.not_lt.mpr h9)
theorem whole_start {p : Program} {e : Env} {s : State} {m : MethodId} {below : List Frame} {meth : Method} {c : Code} (l : Launch) {b L : Nat} {xs : Nat → Int32} (hbd : L ≤ 4096) (C0 : lw_At p s m meth c b L xs) : W p l e room_1 s m #[Value.ref b] below meth c s.heap [] 0 0 (lw_Z below #[Value.ref b] s) (entryFrame m ([Value.ref b] : List Value).toArray 4) :=
  whole_of l 4000 (by decide) (law0 hbd) C0
