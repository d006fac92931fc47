set_option maxHeartbeats 1000000 in
theorem Rel.text {Y A P T O Z : Nat} {σ τ σ' τ' : Mem} (h : Rel Y A P T O Z σ τ) (hf : Fr σ τ σ' τ') : Rel Y A P 0 O Z (mset σ' 6 1 0) (mset τ' 0 12 0) := by
  obtain ⟨hx, ha, hp, hr, hs, ht, hu, hb, ho⟩ := h
  obtain ⟨⟨y1, y2, y3⟩, ⟨a1, a2, a3⟩, ⟨p1, p2, p3, p4⟩, ⟨t1, t2, t3⟩, ⟨o1, o2, o3⟩, ⟨z1, z2, z3⟩⟩ := hx
  obtain ⟨f1, f2, f3⟩ := hf
  have hX : ∀ i, i ≠ 6 → i ≠ 8 → mset σ' 6 1 0 i = σ i := fun i h1 h2 => by rw [mset_ne h1]; exact f1 i h2
  have hM : ∀ i, i ≠ 0 → mset τ' 0 12 0 i = τ i := fun i h1 => by rw [mset_ne h1]; exact f2 i h1
  have hM0 : ∀ k, k < 32 → k ≠ 12 → mset τ' 0 12 0 0 k = τ 0 k := fun k h1 h2 => by rw [mg_k h2]; exact f3 k h1
  refine ⟨⟨⟨?_, ?_, y3⟩, ⟨?_, ?_, a3⟩, ⟨?_, ?_, p3, p4⟩, ⟨mg_e, mg_e, by omega⟩, ⟨?_, ?_, o3⟩, ⟨?_, ?_, z3⟩⟩, ?_, ?_, ?_, ?_, ?_, ?_, ?_, ?_⟩
  · rw [hX 0 (by omega) (by omega)]; exact y1
  · rw [hM0 0 (by omega) (by omega)]; exact y2
  · rw [hX 1 (by omega) (by omega)]; exact a1
  · rw [hM0 1 (by omega) (by omega)]; exact a2
  · rw [hX 9 (by omega) (by omega)]; exact p1
  · rw [hM0 13 (by omega) (by omega)]; exact p2
  · rw [hX 11 (by omega) (by omega)]; exact o1
  · rw [hM0 24 (by omega) (by omega)]; exact o2
  · rw [hX 11 (by omega) (by omega)]; exact z1
  · rw [hM0 25 (by omega) (by omega)]; exact z2
  · exact ha.cg (fun i hi k hk => by rw [hX (16 + i) (by omega) (by omega)]) (hM 1 (by omega)) (hM 2 (by omega)) (hM 3 (by omega)) (hM 4 (by omega))
  · exact hp.cg (fun i hi => by rw [hX (16 + i) (by omega) (by omega)]) (hM 19 (by omega))
  · exact hr.cg (hX 15 (by omega) (by omega)) (hM 5 (by omega))
  · exact hs.cg (fun i hi => hX (36 + i) (by omega) (by omega)) (fun i hi => hX (40 + i) (by omega) (by omega)) (hM 6 (by omega)) (hM 7 (by omega)) (hM 8 (by omega)) (hM 9 (by omega))
  · intro j hj; omega
  · exact hu.cg (fun i hi => hX (44 + i) (by omega) (by omega)) (fun i hi => hX (64 + i) (by omega) (by omega)) (fun k h1 h2 => hM k (by omega)) (hM0 13 (by omega) (by omega))
  · exact hb.cg (hX 12 (by omega) (by omega)) (hM 20 (by omega))
  · exact ho.cg (hX 14 (by omega) (by omega)) (hM 21 (by omega))
set_option maxHeartbeats 1000000 in
theorem Rel.made {Y A P T O Z e f t g y : Nat} {σ τ : Mem} (h : Rel Y A P T O Z σ τ) (hP : P < 20) (he : e ≤ 3 + A) (hf : f ≤ 200) (ht' : t ≤ 200) (hg : g ≤ 9999) (hy : y ≤ 1) : Rel Y A (P + 1) T O Z (mset (mset (mset (mset (mset (mset σ (44 + P) 1 (nI e)) (44 + P) 2 (nI f)) (44 + P) 3 (nI t)) (44 + P) 4 (nI g)) (44 + P) 5 (nI y)) 9 1 (nI (P + 1))) (mset (mset (mset (mset (mset (mset τ 11 P (nI e)) 12 P (nI f)) 13 P (nI t)) 14 P (nI y)) 15 P (nI g)) 0 13 (nI (P + 1))) := by
  obtain ⟨hx, ha, hp, hr, hs, ht, hu, hb, ho⟩ := h
  obtain ⟨⟨y1, y2, y3⟩, ⟨a1, a2, a3⟩, ⟨p1, p2, p3, p4⟩, ⟨t1, t2, t3⟩, ⟨o1, o2, o3⟩, ⟨z1, z2, z3⟩⟩ := hx
  obtain ⟨σ', hσ⟩ : ∃ σ', σ' = mset (mset (mset (mset (mset (mset σ (44 + P) 1 (nI e)) (44 + P) 2 (nI f)) (44 + P) 3 (nI t)) (44 + P) 4 (nI g)) (44 + P) 5 (nI y)) 9 1 (nI (P + 1)) := ⟨_, rfl⟩
  obtain ⟨τ', hτ⟩ : ∃ τ', τ' = mset (mset (mset (mset (mset (mset τ 11 P (nI e)) 12 P (nI f)) 13 P (nI t)) 14 P (nI y)) 15 P (nI g)) 0 13 (nI (P + 1)) := ⟨_, rfl⟩
  rw [← hσ, ← hτ]
  have hX : ∀ i, i ≠ 9 → i ≠ 44 + P → σ' i = σ i := fun i h1 h2 => by rw [hσ, mset_ne h1, mset_ne h2, mset_ne h2, mset_ne h2, mset_ne h2, mset_ne h2]
  have hM : ∀ i, i ≠ 0 → i ≠ 11 → i ≠ 12 → i ≠ 13 → i ≠ 14 → i ≠ 15 → τ' i = τ i := fun i h0 h1 h2 h3 h4 h5 => by rw [hτ, mset_ne h0, mset_ne h5, mset_ne h4, mset_ne h3, mset_ne h2, mset_ne h1]
  have hM0 : ∀ k, k ≠ 13 → τ' 0 k = τ 0 k := fun k h1 => by rw [hτ, mg_k h1, mg_i (by omega), mg_i (by omega), mg_i (by omega), mg_i (by omega), mg_i (by omega)]
  have e9 : σ' 9 1 = nI (P + 1) := by rw [hσ]; exact mg_e
  have e13 : τ' 0 13 = nI (P + 1) := by rw [hτ]; exact mg_e
  have r1 : σ' (44 + P) 1 = nI e := by rw [hσ, mg_i (by omega), mg_k (by omega), mg_k (by omega), mg_k (by omega), mg_k (by omega), mg_e]
  have r2 : σ' (44 + P) 2 = nI f := by rw [hσ, mg_i (by omega), mg_k (by omega), mg_k (by omega), mg_k (by omega), mg_e]
  have r3 : σ' (44 + P) 3 = nI t := by rw [hσ, mg_i (by omega), mg_k (by omega), mg_k (by omega), mg_e]
  have r4 : σ' (44 + P) 4 = nI g := by rw [hσ, mg_i (by omega), mg_k (by omega), mg_e]
  have r5 : σ' (44 + P) 5 = nI y := by rw [hσ, mg_i (by omega), mg_e]
  have r6 : ∀ k, 6 ≤ k → σ' (44 + P) k = σ (44 + P) k := fun k hk => by rw [hσ, mg_i (by omega), mg_k (by omega), mg_k (by omega), mg_k (by omega), mg_k (by omega), mg_k (by omega)]
  have s1 : τ' 11 P = nI e := by rw [hτ, mg_i (by omega), mg_i (by omega), mg_i (by omega), mg_i (by omega), mg_i (by omega), mg_e]
  have s2 : τ' 12 P = nI f := by rw [hτ, mg_i (by omega), mg_i (by omega), mg_i (by omega), mg_i (by omega), mg_e]
  have s3 : τ' 13 P = nI t := by rw [hτ, mg_i (by omega), mg_i (by omega), mg_i (by omega), mg_e]
  have s5 : τ' 14 P = nI y := by rw [hτ, mg_i (by omega), mg_i (by omega), mg_e]
  have s4 : τ' 15 P = nI g := by rw [hτ, mg_i (by omega), mg_e]
  have sn : ∀ p, p ≠ P → τ' 11 p = τ 11 p ∧ τ' 12 p = τ 12 p ∧ τ' 13 p = τ 13 p ∧ τ' 14 p = τ 14 p ∧ τ' 15 p = τ 15 p := fun p hp => by
    refine ⟨?_, ?_, ?_, ?_, ?_⟩
    · rw [hτ, mg_i (by omega), mg_i (by omega), mg_i (by omega), mg_i (by omega), mg_i (by omega), mg_k hp]
    · rw [hτ, mg_i (by omega), mg_i (by omega), mg_i (by omega), mg_i (by omega), mg_k hp, mg_i (by omega)]
    · rw [hτ, mg_i (by omega), mg_i (by omega), mg_i (by omega), mg_k hp, mg_i (by omega), mg_i (by omega)]
    · rw [hτ, mg_i (by omega), mg_i (by omega), mg_k hp, mg_i (by omega), mg_i (by omega), mg_i (by omega)]
    · rw [hτ, mg_i (by omega), mg_k hp, mg_i (by omega), mg_i (by omega), mg_i (by omega), mg_i (by omega)]
  refine ⟨⟨⟨?_, ?_, y3⟩, ⟨?_, ?_, a3⟩, ⟨e9, e13, by omega, by omega⟩, ⟨?_, ?_, t3⟩, ⟨?_, ?_, o3⟩, ⟨?_, ?_, z3⟩⟩, ?_, ?_, ?_, ?_, ?_, ?_, ?_, ?_⟩
  · rw [hX 0 (by omega) (by omega)]; exact y1
  · rw [hM0 0 (by omega)]; exact y2
  · rw [hX 1 (by omega) (by omega)]; exact a1
  · rw [hM0 1 (by omega)]; exact a2
  · rw [hX 6 (by omega) (by omega)]; exact t1
  · rw [hM0 12 (by omega)]; exact t2
  · rw [hX 11 (by omega) (by omega)]; exact o1
  · rw [hM0 24 (by omega)]; exact o2
  · rw [hX 11 (by omega) (by omega)]; exact z1
  · rw [hM0 25 (by omega)]; exact z2
  · exact ha.cg (fun i hi k hk => by rw [hX (16 + i) (by omega) (by omega)]) (hM 1 (by omega) (by omega) (by omega) (by omega) (by omega) (by omega)) (hM 2 (by omega) (by omega) (by omega) (by omega) (by omega) (by omega)) (hM 3 (by omega) (by omega) (by omega) (by omega) (by omega) (by omega)) (hM 4 (by omega) (by omega) (by omega) (by omega) (by omega) (by omega))
  · have e19 := hM 19 (by omega) (by omega) (by omega) (by omega) (by omega) (by omega)
    refine ⟨fun i hi => ?_, fun p k h1 h2 h3 => ?_⟩
    · rw [hX (16 + i) (by omega) (by omega), hp.1 i hi, e19, smI, hp.2 P (2 + i) (by omega) hP (by omega), add0]
    · rw [e19]; exact hp.2 p k (by omega) h2 h3
  · exact hr.cg (hX 15 (by omega) (by omega)) (hM 5 (by omega) (by omega) (by omega) (by omega) (by omega) (by omega))
  · exact hs.cg (fun i hi => hX (36 + i) (by omega) (by omega)) (fun i hi => hX (40 + i) (by omega) (by omega)) (hM 6 (by omega) (by omega) (by omega) (by omega) (by omega) (by omega)) (hM 7 (by omega) (by omega) (by omega) (by omega) (by omega) (by omega)) (hM 8 (by omega) (by omega) (by omega) (by omega) (by omega) (by omega)) (hM 9 (by omega) (by omega) (by omega) (by omega) (by omega) (by omega))
  · exact ht.cg (hX 7 (by omega) (by omega)) (hM 10 (by omega) (by omega) (by omega) (by omega) (by omega) (by omega))
  · intro p hp'
    obtain ⟨⟨q1, q2, q3, q4, q5, q6, q7, q8⟩, q9, b1, b2, b3, b4, b5, b6⟩ := hu p hp'
    rw [p2, np20_nI p4] at b6
    rw [e13, np20_nI (show P + 1 ≤ 20 by omega), hM 16 (by omega) (by omega) (by omega) (by omega) (by omega) (by omega), hM 17 (by omega) (by omega) (by omega) (by omega) (by omega) (by omega), hM 18 (by omega) (by omega) (by omega) (by omega) (by omega) (by omega), hM 19 (by omega) (by omega) (by omega) (by omega) (by omega) (by omega), hX (64 + p) (by omega) (by omega)]
    have b6' := b6.w (m := if p = 0 then 400000 * Y else 10000 * (Y + 1 + (P + 1))) (by split <;> omega)
    by_cases c : p = P
    · subst c
      rw [r1, r2, r3, r4, r5, r6 6 (by omega), r6 7 (by omega), r6 8 (by omega), s1, s2, s3, s4, s5]
      exact ⟨⟨rfl, rfl, rfl, rfl, rfl, q6, q7, q8⟩, q9, ⟨e, he, rfl⟩, ⟨f, hf, rfl⟩, ⟨t, ht', rfl⟩, ⟨g, hg, rfl⟩, ⟨y, hy, rfl⟩, b6'⟩
    · obtain ⟨n1, n2, n3, n4, n5⟩ := sn p c
      rw [n1, n2, n3, n4, n5, hX (44 + p) (by omega) (by omega)]
      exact ⟨⟨q1, q2, q3, q4, q5, q6, q7, q8⟩, q9, b1, b2, b3, b4, b5, b6'⟩
  · exact hb.cg (hX 12 (by omega) (by omega)) (hM 20 (by omega) (by omega) (by omega) (by omega) (by omega) (by omega))
  · exact ho.cg (hX 14 (by omega) (by omega)) (hM 21 (by omega) (by omega) (by omega) (by omega) (by omega) (by omega))
/-- coins come to a purse -/
theorem Rel.come {Y A P T O Z q c x : Nat} {σ τ : Mem} (h : Rel Y A P T O Z σ τ) (hq : q < 20) (hq0 : q ≠ 0) (hc : τ 16 q = nI c) (hb' : c + x ≤ 10000 * (Y + 1 + P)) : ∃ σ1 σ' τ', fX5_receive σ (44 + q) (nI x) = some σ1 ∧ fX6_add σ1 (nI Y) (nI 0) (nI x) = some σ' ∧ (∀ j, j ≠ 6 → j ≠ 7 → σ1 (44 + q) j = σ (44 + q) j) ∧ σ1 0 9 = nI Y ∧ fX10_comes τ (nI q) (nI x) (nI 0) = some τ' ∧ Rel Y A P T O Z σ' τ' := by
  obtain ⟨hx, ha, hp, hr, hs, ht, hu, hb, ho⟩ := h
  have hxx := hx
  obtain ⟨⟨y1, y2, y3⟩, ⟨a1, a2, a3⟩, ⟨p1, p2, p3, p4⟩, -⟩ := hxx
  have hub : RpuB (fun p => if p = 0 then 400000 * Y else 10000 * (Y + 1 + P)) A σ τ := by
    have := RpuB.of hu
    rw [p2, np20_nI p4] at this
    exact this
  obtain ⟨σ1, σ', τ', r1, r2, r3, r4, r5, hu', ho', hX, hM⟩ := come_both (bd' := fun p => if p = 0 then 400000 * Y else 10000 * (Y + 1 + P)) (k := 0) (x := x) (σ0 := σ) (τ0 := τ) ⟨hub, ho, fun _ _ _ => rfl, fun _ _ _ _ _ => rfl⟩ y3 y1 y2 hq (by omega) hc (by rw [if_neg hq0]; exact hb') (fun p hp hne => Nat.le_refl _)
  have hM0 : τ' 0 = τ 0 := hM 0 (by omega) (by omega) (by omega) (by omega)
  refine ⟨σ1, σ', τ', r1, r2, r3, r4, r5, ?_, ?_, ?_, ?_, ?_, ?_, ?_, ?_, ?_⟩
  · exact hx.cg (by rw [hX 0 (by omega) (by omega)]) (by rw [hM0]) (by rw [hX 1 (by omega) (by omega)]) (by rw [hM0]) (by rw [hX 9 (by omega) (by omega)]) (by rw [hM0]) (by rw [hX 6 (by omega) (by omega)]) (by rw [hM0]) (by rw [hX 11 (by omega) (by omega)]) (by rw [hM0]) (by rw [hX 11 (by omega) (by omega)]) (by rw [hM0])
  · exact ha.cg (fun i hi k hk => by rw [hX (16 + i) (by omega) (by omega)]) (hM 1 (by omega) (by omega) (by omega) (by omega)) (hM 2 (by omega) (by omega) (by omega) (by omega)) (hM 3 (by omega) (by omega) (by omega) (by omega)) (hM 4 (by omega) (by omega) (by omega) (by omega))
  · exact hp.cg (fun i hi => by rw [hX (16 + i) (by omega) (by omega)]) (hM 19 (by omega) (by omega) (by omega) (by omega))
  · exact hr.cg (hX 15 (by omega) (by omega)) (hM 5 (by omega) (by omega) (by omega) (by omega))
  · exact hs.cg (fun i hi => hX (36 + i) (by omega) (by omega)) (fun i hi => hX (40 + i) (by omega) (by omega)) (hM 6 (by omega) (by omega) (by omega) (by omega)) (hM 7 (by omega) (by omega) (by omega) (by omega)) (hM 8 (by omega) (by omega) (by omega) (by omega)) (hM 9 (by omega) (by omega) (by omega) (by omega))
  · exact ht.cg (hX 7 (by omega) (by omega)) (hM 10 (by omega) (by omega) (by omega) (by omega))
  · apply RpuB.to
    rw [hM0, p2, np20_nI p4]
    exact hu'
  · exact hb.cg (hX 12 (by omega) (by omega)) (hM 20 (by omega) (by omega) (by omega) (by omega))
  · exact ho'
set_option maxHeartbeats 1000000 in
theorem op_gift {σ τ : Mem} (h : RelE σ τ) : Op2 (fX9_gift σ) (fX10_gift τ) := by
  have h0 := h
  obtain ⟨Y, A, P, T, O, Z, hx, ha, hp, hr, hs, ht, hu, hb, ho⟩ := h
  have hxx := hx
  obtain ⟨⟨y1, y2, y3⟩, ⟨a1, a2, a3⟩, ⟨p1, p2, p3, p4⟩, ⟨t1, t2, t3⟩, ⟨o1, o2, o3⟩, ⟨z1, z2, z3⟩⟩ := hxx
  have hrel : Rel Y A P T O Z σ τ := ⟨hx, ha, hp, hr, hs, ht, hu, hb, ho⟩
  unfold fX9_gift fX10_gift
  obtain ⟨zc, σ1, zm, τ1, g1, g2, g3, g4⟩ := gread (T := T) ⟨t1, t2, ht, t3⟩ y3 y2 a3 a2
  rw [a1, y1, g1, g2, boS, boS, bmE, bmE]
  have hR := hrel.text g3
  rcases g4 with ⟨rfl, p, hp48, e1, rfl⟩ | ⟨rfl, rfl, s3, s4, s5, s6, s7⟩
  · have e1' : mset σ1 6 1 0 8 1 = nI p := by rw [mg_i (by omega)]; exact e1
    simp only [if_true, e1', show ¬ nI p < 0 by rw [i0, ltN (by omega) (by omega)]; omega, if_false]
    exact ⟨_, _, _, rfl, rfl, Y, A, P, 0, O, Z, hR⟩
  · obtain ⟨g, hg, e3, m3⟩ := s3
    obtain ⟨e, he, e4, m4⟩ := s4
    obtain ⟨f, hf, e5, m5⟩ := s5
    obtain ⟨t, ht2, e6, m6⟩ := s6
    obtain ⟨y, hy, e7, m7⟩ := s7
    have e3 : mset σ1 6 1 0 8 3 = nI g := by rw [mg_i (by omega)]; exact e3
    have e4 : mset σ1 6 1 0 8 4 = nI e := by rw [mg_i (by omega)]; exact e4
    have e5 : mset σ1 6 1 0 8 5 = nI f := by rw [mg_i (by omega)]; exact e5
    have e6 : mset σ1 6 1 0 8 6 = nI t := by rw [mg_i (by omega)]; exact e6
    have e7 : mset σ1 6 1 0 8 7 = nI y := by rw [mg_i (by omega)]; exact e7
    have m3 : mset τ1 0 12 0 0 35 = nI g := by rw [mg_k (by omega)]; exact m3
    have m4 : mset τ1 0 12 0 0 36 = nI e := by rw [mg_k (by omega)]; exact m4
    have m5 : mset τ1 0 12 0 0 37 = nI f := by rw [mg_k (by omega)]; exact m5
    have m6 : mset τ1 0 12 0 0 38 = nI t := by rw [mg_k (by omega)]; exact m6
    have m7 : mset τ1 0 12 0 0 39 = nI y := by rw [mg_k (by omega)]; exact m7
    dsimp only
    obtain ⟨σ2, hσ2⟩ : ∃ σ2, σ2 = mset σ1 6 1 0 := ⟨_, rfl⟩
    obtain ⟨τ2, hτ2⟩ : ∃ τ2, τ2 = mset τ1 0 12 0 := ⟨_, rfl⟩
    rw [← hσ2] at hR e3 e4 e5 e6 e7 ⊢
    rw [← hτ2] at hR m3 m4 m5 m6 m7 ⊢
    have k1 : σ2 9 1 = nI P := hR.1.2.2.1.1
    have k2 : τ2 0 13 = nI P := hR.1.2.2.1.2.1
    have f1 : (nI P < (20 : Int32)) = (P < 20) := ltN (b := 20) (by omega) (by omega)
    have f2 : (nI P = (20 : Int32)) = (P = 20) := eqN (b := 20) (by omega) (by omega)
    rw [if_neg (show ¬ (1 : Int32) = 0 by decide), if_pos (show (-1 : Int32) < 0 by decide), k1, k2]
    simp only [f1, f2]
    by_cases c : P = 20
    · rw [if_neg (by omega), if_pos c]
      exact ⟨_, _, _, rfl, rfl, Y, A, P, 0, O, Z, hR⟩
    rw [if_pos (by omega), if_neg c]
    have hmade := hR.made (e := e) (f := f) (t := t) (g := g) (y := y) (by omega) he hf ht2 hg hy
    have hmk : fX3_make σ2 = some (nI P, mset (mset (mset (mset (mset (mset σ2 (44 + P) 1 (nI e)) (44 + P) 2 (nI f)) (44 + P) 3 (nI t)) (44 + P) 4 (nI g)) (44 + P) 5 (nI y)) 9 1 (nI (P + 1))) := by
      unfold fX3_make
      rw [k1, if_pos (inbN (show P < 20 by omega) (by omega)), cN (by omega), rf10]
      simp only [bmE, e4, mg_i (show (8 : Nat) ≠ 44 + P by omega), e5, e6, e3, e7, mg_i (show (9 : Nat) ≠ 44 + P by omega), k1, nIs, mg_e, nI_pred]
    rw [hmk, boS]
    have hin : inb (nI P) 20 = true := inbN (show P < 20 by omega) (by omega)
    simp only [biE, hin, if_true, cN (show P < 2 ^ 31 by omega), bmE, m4, mg_i (show (0 : Nat) ≠ 11 by omega), mg_i (show (0 : Nat) ≠ 12 by omega), mg_i (show (0 : Nat) ≠ 13 by omega), mg_i (show (0 : Nat) ≠ 14 by omega), mg_i (show (0 : Nat) ≠ 15 by omega), m5, m6, m7, m3, k2, nIs, mg_k (show (0 : Nat) ≠ 13 by omega), mg_k (show (37 : Nat) ≠ 13 by omega), mg_k (show (35 : Nat) ≠ 13 by omega)]
    obtain ⟨σ3, hσ3⟩ : ∃ σ3, σ3 = mset (mset (mset (mset (mset (mset σ2 (44 + P) 1 (nI e)) (44 + P) 2 (nI f)) (44 + P) 3 (nI t)) (44 + P) 4 (nI g)) (44 + P) 5 (nI y)) 9 1 (nI (P + 1)) := ⟨_, rfl⟩
    obtain ⟨τ3, hτ3⟩ : ∃ τ3, τ3 = mset (mset (mset (mset (mset (mset τ2 11 P (nI e)) 12 P (nI f)) 13 P (nI t)) 14 P (nI y)) 15 P (nI g)) 0 13 (nI (P + 1)) := ⟨_, rfl⟩
    rw [← hσ3, ← hτ3] at hmade
    rw [← hσ3, ← hτ3]
    have w1 : σ3 0 9 = nI Y := hmade.1.1.1
    have w2 : τ2 0 0 = nI Y := hR.1.1.2.1
    have w3 : σ3 8 5 = nI f := by rw [hσ3, mg_i (by omega), mg_i (by omega), mg_i (by omega), mg_i (by omega), mg_i (by omega), mg_i (by omega)]; exact e5
    rw [w1, w2, w3]
    have f3 : (nI Y < nI f) = (Y < f) := ltN (by omega) (by omega)
    simp only [f3]
    by_cases c2 : Y < f
    · rw [if_pos c2, if_pos c2]
      exact ⟨_, _, _, rfl, rfl, Y, A, P + 1, 0, O, Z, hmade⟩
    rw [if_neg c2, if_neg c2]
    have w4 : σ3 (44 + P) 4 = nI g := by rw [hσ3, mg_i (by omega), mg_k (by omega), mg_e]
    have w5 : τ3 16 = τ2 16 := by rw [hτ3, mset_ne (by omega), mset_ne (by omega), mset_ne (by omega), mset_ne (by omega), mset_ne (by omega), mset_ne (by omega)]
    obtain ⟨-, -, -, -, -, -, -, ⟨c0, hc0, ec0⟩⟩ := hR.2.2.2.2.2.2.1 P (by omega)
    rw [k2, np20_nI p4, if_neg (by omega)] at hc0
    obtain ⟨σ4, σ5, τ5, r1, r2, r3, r4, r5, r6⟩ := hmade.come (q := P) (c := c0) (x := g) (by omega) (by omega) (by rw [w5]; exact ec0) (by omega)
    have hbg : fX9_bringGift σ3 (44 + P) = some σ5 := by
      unfold fX9_bringGift
      have r2' : fX6_add σ4 (nI Y) 0 (nI g) = some σ5 := r2
      rw [w4, r1, boS, r4, r3 4 (by omega) (by omega), w4, r2', boS]
    have r5' : fX10_comes τ3 (nI P) (nI g) 0 = some τ5 := r5
    rw [rf10, hbg, r5', boS, boS]
    exact ⟨_, _, _, rfl, rfl, Y, A, P + 1, 0, O, Z, r6⟩
