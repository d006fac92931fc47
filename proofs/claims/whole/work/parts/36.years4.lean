set_option maxHeartbeats 1000000 in
theorem back_eq {τ : Mem} {A : Nat} (hA : τ 0 1 = nI A) (hA2 : A ≤ 10) : ∃ τ', fX10_goOn_357 300 τ 0 = fX10_goOn_414 τ' ∧ (∀ i, i ≠ 2 → i ≠ 3 → i ≠ 4 → τ' i = τ i) ∧ (∀ i, i < A → τ' 2 i = τ 22 i ∧ τ' 3 i = τ 23 i ∧ τ' 4 i = τ 24 i) ∧ ∀ i, A ≤ i → τ' 2 i = τ 2 i ∧ τ' 3 i = τ 3 i ∧ τ' 4 i = τ 4 i := by
  obtain ⟨m, ⟨h1, h2, h4⟩, h3⟩ := lp_up (S := Mem) (fun n m i => fX10_goOn_357 n m i) (fun m => fX10_goOn_414 m) (fun k m => (∀ i, i ≠ 2 → i ≠ 3 → i ≠ 4 → m i = τ i) ∧ (∀ i, i < k → m 2 i = τ 22 i ∧ m 3 i = τ 23 i ∧ m 4 i = τ 24 i) ∧ ∀ i, k ≤ i → m 2 i = τ 2 i ∧ m 3 i = τ 3 i ∧ m 4 i = τ 4 i) A
    (fun n m ⟨h1, h2, h4⟩ => by
      show fX10_goOn_357 (n + 1) m (nI A) = _
      rw [fX10_goOn_357, h1 0 (by omega) (by omega) (by omega), hA, if_pos (by rw [leN (by omega) (by omega)]; omega)])
    (fun n k m hk ⟨h1, h2, h4⟩ => by
      have e2 : ∀ j, mset (mset (mset m 2 k (m 22 k)) 3 k (m 23 k)) 4 k (m 24 k) 2 j = mset m 2 k (m 22 k) 2 j := fun j => by rw [mg_i (by omega), mg_i (by omega)]
      have e3 : ∀ j, mset (mset (mset m 2 k (m 22 k)) 3 k (m 23 k)) 4 k (m 24 k) 3 j = mset m 3 k (m 23 k) 3 j := fun j => by
        rw [mg_i (by omega)]
        by_cases e : j = k
        · subst e; rw [mg_e, mg_e]
        · rw [mg_k e, mg_k e, mg_i (by omega)]
      have e4 : ∀ j, mset (mset (mset m 2 k (m 22 k)) 3 k (m 23 k)) 4 k (m 24 k) 4 j = mset m 4 k (m 24 k) 4 j := fun j => by
        by_cases e : j = k
        · subst e; rw [mg_e, mg_e]
        · rw [mg_k e, mg_k e, mg_i (by omega), mg_i (by omega)]
      refine ⟨mset (mset (mset m 2 k (m 22 k)) 3 k (m 23 k)) 4 k (m 24 k), ⟨fun i a b c => by rw [mset_ne c, mset_ne b, mset_ne a]; exact h1 i a b c, fun i hi => ?_, fun i hi => ?_⟩, ?_⟩
      · rw [e2, e3, e4]
        by_cases e : i = k
        · subst e
          rw [mg_e, mg_e, mg_e, h1 22 (by omega) (by omega) (by omega), h1 23 (by omega) (by omega) (by omega), h1 24 (by omega) (by omega) (by omega)]; exact ⟨rfl, rfl, rfl⟩
        · rw [mg_k e, mg_k e, mg_k e]; exact h2 i (by omega)
      · rw [e2, e3, e4, mg_k (show i ≠ k by omega), mg_k (show i ≠ k by omega), mg_k (show i ≠ k by omega)]; exact h4 i (by omega)
      · have fk : (nI A ≤ nI k) = False := by rw [leN (by omega) (by omega)]; exact eq_false (by omega)
        show fX10_goOn_357 (n + 1) m (nI k) = _
        rw [fX10_goOn_357, h1 0 (by omega) (by omega) (by omega), hA]
        simp only [fk, if_false, inbN (show k < 10 by omega) (show 10 < 2 ^ 31 by omega), if_true, cN (show k < 2 ^ 31 by omega), bmE, nIs, mg_i (show (23 : Nat) ≠ 2 by omega), mg_i (show (24 : Nat) ≠ 2 by omega), mg_i (show (24 : Nat) ≠ 3 by omega)])
    300 0 τ (by omega) (by omega) ⟨fun _ _ _ _ => rfl, fun _ h => by omega, fun _ _ => ⟨rfl, rfl, rfl⟩⟩
  exact ⟨m, h3, h1, h2, h4⟩
set_option maxHeartbeats 1000000 in
theorem year_both {Y A P T O Z : Nat} {σ τ : Mem} (h : Rel Y A P T O Z σ τ) (hY : Y < 200) : ∃ σ' τ' O' Z', (∀ n v k, (v ≤ k) = False → fX9_years_27 (n + 1) σ v k = fX9_years_27 n σ' v (k + 1)) ∧ fX10_goOn τ = some τ' ∧ Rel (Y + 1) A P T O' Z' σ' τ' := by
  obtain ⟨hx, ha, hp, hr, hs, ht, hu, hb, ho⟩ := h
  obtain ⟨⟨y1, y2, y3⟩, ⟨a1, a2, a3⟩, ⟨p1, p2, p3, p4⟩, ⟨t1, t2, t3⟩, ⟨o1, o2, o3⟩, ⟨z1, z2, z3⟩⟩ := hx
  obtain ⟨σ0, hσ0⟩ : ∃ σ0, σ0 = mset σ 0 9 (nI (Y + 1)) := ⟨_, rfl⟩
  obtain ⟨τ0, hτ0⟩ : ∃ τ0, τ0 = mset τ 0 0 (nI (Y + 1)) := ⟨_, rfl⟩
  have sx : ∀ i, i ≠ 0 → σ0 i = σ i := fun i hi => by rw [hσ0]; exact mset_ne hi
  have tx : ∀ i, i ≠ 0 → τ0 i = τ i := fun i hi => by rw [hτ0]; exact mset_ne hi
  have tx0 : ∀ k, k ≠ 0 → τ0 0 k = τ 0 k := fun k hk => by rw [hτ0]; exact mg_k hk
  have sy : σ0 0 9 = nI (Y + 1) := by rw [hσ0]; exact mg_e
  have ty : τ0 0 0 = nI (Y + 1) := by rw [hτ0]; exact mg_e
  have ha0 : Rar σ0 τ0 := ha.cg (fun i hi k hk => by rw [sx (16 + i) (by omega)]) (tx 1 (by omega)) (tx 2 (by omega)) (tx 3 (by omega)) (tx 4 (by omega))
  have hp0 : Rpd P σ0 τ0 := hp.cg (fun i hi => by rw [sx (16 + i) (by omega)]) (tx 19 (by omega))
  have hr0 : Rru σ0 τ0 := hr.cg (sx 15 (by omega)) (tx 5 (by omega))
  have hs0 : Rsh σ0 τ0 := hs.cg (fun i hi => sx (36 + i) (by omega)) (fun i hi => sx (40 + i) (by omega)) (tx 6 (by omega)) (tx 7 (by omega)) (tx 8 (by omega)) (tx 9 (by omega))
  have ht0 : Rtp T σ0 τ0 := ht.cg (sx 7 (by omega)) (tx 10 (by omega))
  have hu0 : Rpu Y A σ0 τ0 := hu.cg (fun i hi => sx (44 + i) (by omega)) (fun i hi => sx (64 + i) (by omega)) (fun k h1 h2 => tx k (by omega)) (tx0 13 (by omega))
  have hb0 : Rbk σ0 τ0 := hb.cg (sx 12 (by omega)) (tx 20 (by omega))
  have ho0 : Rro σ0 τ0 := ho.cg (sx 14 (by omega)) (tx 21 (by omega))
  have a1' : σ0 1 1 = nI A := by rw [sx 1 (by omega)]; exact a1
  have a2' : τ0 0 1 = nI A := by rw [tx0 1 (by omega)]; exact a2
  have p1' : σ0 9 1 = nI P := by rw [sx 9 (by omega)]; exact p1
  have p2' : τ0 0 13 = nI P := by rw [tx0 13 (by omega)]; exact p2
  have hub : RpuB (fun p => if p = 0 then 400000 * Y else 10000 * (Y + 1 + P)) A σ0 τ0 := by
    have := RpuB.of hu0
    rw [p2', np20_nI p4] at this
    exact this
  obtain ⟨σ1, τ1, l1, l2, l3⟩ := lapse_loop (σ0 := σ0) (τ0 := τ0) (σ := σ0) (τ := τ0) (bd := fun p => if p = 0 then 400000 * Y else 10000 * (Y + 1 + P)) (A := A) (P := P) (Y := Y + 1) (fun p hp => by
    show (if p = 0 then 400000 * Y else 10000 * (Y + 1 + P)) < 2 ^ 31
    split <;> omega) (by omega) p3 p4 sy ty p1' p2' ⟨hub, ho0, fun _ _ _ => rfl, fun _ _ _ _ _ => rfl⟩
  obtain ⟨σ2, τ2, m1, m2, m3⟩ := gift_loop (B0 := 400000 * Y) (B1 := 10000 * (Y + 1 + P)) (by omega) (by omega) p3 p4 sy ty p1' p2' l3
  obtain ⟨σ3, σ4, τ4, n1, n2, n3, hu4, ho4, hX4, hM4⟩ := toll_rent (B0 := 400000 * Y) (B1 := 10000 * (Y + 1 + P) + 9999) (show Y + 1 ≤ 200 by omega) a3 sy ty a1' a2' ha0 hr0 hs0 m3
  have a2'' : τ4 0 1 = nI A := by rw [hM4 0 (by omega) (by omega) (by omega) (by omega)]; exact a2'
  obtain ⟨τ5, k1, k2, k3⟩ := asItIs_eq (τ := τ4) a2'' a3
  have hs5 : Rsh σ4 τ5 := hs0.cg (fun i hi => hX4 (36 + i) (by omega) (by omega)) (fun i hi => hX4 (40 + i) (by omega) (by omega)) (by rw [k2 6 (by omega) (by omega) (by omega), hM4 6 (by omega) (by omega) (by omega) (by omega)]) (by rw [k2 7 (by omega) (by omega) (by omega), hM4 7 (by omega) (by omega) (by omega) (by omega)]) (by rw [k2 8 (by omega) (by omega) (by omega), hM4 8 (by omega) (by omega) (by omega) (by omega)]) (by rw [k2 9 (by omega) (by omega) (by omega), hM4 9 (by omega) (by omega) (by omega) (by omega)])
  obtain ⟨f, f1, f2, f3⟩ := inYear_eq hs5 (show 0 < 4 by omega) (show Y + 1 < 2 ^ 30 by omega)
  have y4 : σ4 0 9 = nI (Y + 1) := by rw [hX4 0 (by omega) (by omega)]; exact sy
  have y5 : τ5 0 0 = nI (Y + 1) := by rw [k2 0 (by omega) (by omega) (by omega), hM4 0 (by omega) (by omega) (by omega) (by omega)]; exact ty
  have f1' : fX7_inYear σ4 36 (σ4 0 9) = some f := by rw [y4]; exact f1
  have f2' : fX10_numberOf τ5 0 (τ5 0 0) = some f := by rw [y5]; exact f2
  have hshd : Shd 16 A σ4 τ5 := by
    intro i hi
    obtain ⟨r1, r2, r3⟩ := k3 i hi
    rw [r1, r2, r3, k2 1 (by omega) (by omega) (by omega), hX4 (16 + i) (by omega) (by omega), hM4 1 (by omega) (by omega) (by omega) (by omega), hM4 2 (by omega) (by omega) (by omega) (by omega), hM4 3 (by omega) (by omega) (by omega) (by omega), hM4 4 (by omega) (by omega) (by omega) (by omega)]
    exact ha0 i (by omega)
  obtain ⟨σ6, τ6', τ6, s1, s2, s3, s4, s5, s6, s7⟩ := year_step (b := 1) (B := 16) (fun k => rfl) (by omega) (by rw [hX4 1 (by omega) (by omega)]; exact a1') (show τ5 0 1 = nI A by rw [k2 0 (by omega) (by omega) (by omega)]; exact a2'') a3 hshd f2' f3
  have hA6 : τ6 0 1 = nI A := by rw [s7 0 (by omega) (by omega) (by omega) (by omega), k2 0 (by omega) (by omega) (by omega)]; exact a2''
  obtain ⟨τ7, b1, b2, b3, b4⟩ := back_eq hA6 a3
  have cX : ∀ i, ¬ (16 ≤ i ∧ i < 26) → i ≠ 14 → ¬ (44 ≤ i ∧ i < 64) → σ6 i = σ0 i := fun i h1 h2 h3 => by rw [s5 i (by omega)]; exact hX4 i h2 h3
  have cX4 : ∀ i, ¬ (16 ≤ i ∧ i < 26) → σ6 i = σ4 i := fun i h1 => s5 i (by omega)
  have cM4 : ∀ i, i ≠ 2 → i ≠ 3 → i ≠ 4 → i < 22 → τ7 i = τ4 i := fun i h1 h2 h3 h4 => by rw [b2 i h1 h2 h3, s7 i (by omega) (by omega) (by omega) (by omega), k2 i (by omega) (by omega) (by omega)]
  have cM : ∀ i, i ≠ 2 → i ≠ 3 → i ≠ 4 → i < 22 → i ≠ 16 → i ≠ 17 → i ≠ 18 → i ≠ 21 → τ7 i = τ0 i := fun i h1 h2 h3 h4 h5 h6 h7 h8 => by rw [cM4 i h1 h2 h3 h4]; exact hM4 i h5 h6 h7 h8
  have c4 : ∀ i, i < 10 → σ6 (16 + i) 4 = σ0 (16 + i) 4 ∧ σ6 (16 + i) 0 = σ0 (16 + i) 0 := fun i hi => by
    by_cases e : i < A
    · rw [s6 i e 4 (by omega) (by omega) (by omega), s6 i e 0 (by omega) (by omega) (by omega), hX4 (16 + i) (by omega) (by omega)]; exact ⟨rfl, rfl⟩
    · rw [s5 (16 + i) (by omega), hX4 (16 + i) (by omega) (by omega)]; exact ⟨rfl, rfl⟩
  have t0 : ∀ k, τ7 0 k = τ0 0 k := fun k => by rw [cM 0 (by omega) (by omega) (by omega) (by omega) (by omega) (by omega) (by omega) (by omega)]
  have hrel : Rel (Y + 1) A P T O Z σ6 τ7 := by
    refine ⟨⟨⟨?_, ?_, by omega⟩, ⟨?_, ?_, a3⟩, ⟨?_, ?_, p3, p4⟩, ⟨?_, ?_, t3⟩, ⟨?_, ?_, o3⟩, ⟨?_, ?_, z3⟩⟩, ?_, ?_, ?_, ?_, ?_, ?_, ?_, ?_⟩
    · rw [cX 0 (by omega) (by omega) (by omega)]; exact sy
    · rw [t0]; exact ty
    · rw [cX 1 (by omega) (by omega) (by omega)]; exact a1'
    · rw [t0]; exact a2'
    · rw [cX 9 (by omega) (by omega) (by omega)]; exact p1'
    · rw [t0]; exact p2'
    · rw [cX 6 (by omega) (by omega) (by omega), sx 6 (by omega)]; exact t1
    · rw [t0, tx0 12 (by omega)]; exact t2
    · rw [cX 11 (by omega) (by omega) (by omega), sx 11 (by omega)]; exact o1
    · rw [t0, tx0 24 (by omega)]; exact o2
    · rw [cX 11 (by omega) (by omega) (by omega), sx 11 (by omega)]; exact z1
    · rw [t0, tx0 25 (by omega)]; exact z2
    · intro i hi
      by_cases e : i < A
      · obtain ⟨r1, r2, r3⟩ := b3 i e
        rw [r1, r2, r3, b2 1 (by omega) (by omega) (by omega)]
        exact s4 i e
      · obtain ⟨r1, r2, r3⟩ := b4 i (by omega)
        rw [r1, r2, r3, s5 (16 + i) (by omega), hX4 (16 + i) (by omega) (by omega), cM 1 (by omega) (by omega) (by omega) (by omega) (by omega) (by omega) (by omega) (by omega), s7 2 (by omega) (by omega) (by omega) (by omega), s7 3 (by omega) (by omega) (by omega) (by omega), s7 4 (by omega) (by omega) (by omega) (by omega), k2 2 (by omega) (by omega) (by omega), k2 3 (by omega) (by omega) (by omega), k2 4 (by omega) (by omega) (by omega), hM4 2 (by omega) (by omega) (by omega) (by omega), hM4 3 (by omega) (by omega) (by omega) (by omega), hM4 4 (by omega) (by omega) (by omega) (by omega)]
        exact ha0 i hi
    · exact hp0.cg (fun i hi => (c4 i hi).1) (cM 19 (by omega) (by omega) (by omega) (by omega) (by omega) (by omega) (by omega) (by omega))
    · exact hr0.cg (cX 15 (by omega) (by omega) (by omega)) (cM 5 (by omega) (by omega) (by omega) (by omega) (by omega) (by omega) (by omega) (by omega))
    · exact hs0.cg (fun i hi => cX (36 + i) (by omega) (by omega) (by omega)) (fun i hi => cX (40 + i) (by omega) (by omega) (by omega)) (cM 6 (by omega) (by omega) (by omega) (by omega) (by omega) (by omega) (by omega) (by omega)) (cM 7 (by omega) (by omega) (by omega) (by omega) (by omega) (by omega) (by omega) (by omega)) (cM 8 (by omega) (by omega) (by omega) (by omega) (by omega) (by omega) (by omega) (by omega)) (cM 9 (by omega) (by omega) (by omega) (by omega) (by omega) (by omega) (by omega) (by omega))
    · exact ht0.cg (cX 7 (by omega) (by omega) (by omega)) (cM 10 (by omega) (by omega) (by omega) (by omega) (by omega) (by omega) (by omega) (by omega))
    · refine Rpu.cg (RpuB.to (hu4.mono (fun p hp => ?_))) (fun i hi => cX4 (44 + i) (by omega)) (fun i hi => cX4 (64 + i) (by omega)) (fun k h1 h2 => cM4 k (by omega) (by omega) (by omega) (by omega)) (by rw [cM4 0 (by omega) (by omega) (by omega) (by omega)])
      rw [show τ4 0 13 = nI P by rw [hM4 0 (by omega) (by omega) (by omega) (by omega)]; exact p2', np20_nI p4]
      show (if p = 0 then 400000 * Y + 304000 else 10000 * (Y + 1 + P) + 9999) ≤ if p = 0 then 400000 * (Y + 1) else 10000 * (Y + 1 + 1 + P)
      split <;> omega
    · exact hb0.cg (cX 12 (by omega) (by omega) (by omega)) (cM 20 (by omega) (by omega) (by omega) (by omega) (by omega) (by omega) (by omega) (by omega))
    · exact ho4.cg (cX4 14 (by omega)) (cM4 21 (by omega) (by omega) (by omega) (by omega))
  obtain ⟨σ8, τ8, O', Z', u1, u2, u3⟩ := keep_both hrel
  refine ⟨σ8, τ8, O', Z', fun n v k hvk => ?_, ?_, u3⟩
  · rw [fX9_years_27]
    simp only [hvk, if_false]
    rw [bmE, y1, nIs, ← hσ0, l1, boS, m1, boS, n1, boS, n2, boS, f1', boS, s1, boS, u1, boS]
  · unfold fX10_goOn
    rw [bmE, y2, nIs, ← hτ0]
    have l2' : fX10_goOn_12 300 τ0 1 = fX10_goOn_84 300 τ1 1 := l2
    rw [l2', m2, n3, k1, boS, s2, boS, s3, boS, b1]
    unfold fX10_goOn_414
    rw [u2, boS]
set_option maxHeartbeats 1000000 in
theorem op_years {σ τ : Mem} (v1 : Int32) (h : RelE σ τ) : Op2 (fX9_years σ v1) (fX10_years τ v1) := by
  have h0 := h
  obtain ⟨Y, A, P, T, O, Z, hx, ha, hp, hr, hs, ht, hu, hb, ho⟩ := h
  have hxx := hx
  obtain ⟨⟨y1, y2, y3⟩, ⟨a1, a2, a3⟩, ⟨p1, p2, p3, p4⟩, ⟨t1, t2, t3⟩, ⟨o1, o2, o3⟩, ⟨z1, z2, z3⟩⟩ := hxx
  have hrel : Rel Y A P T O Z σ τ := ⟨hx, ha, hp, hr, hs, ht, hu, hb, ho⟩
  unfold fX9_years fX10_years
  rcases win_or σ τ v1 1 50 (lo := 1) (hi := 50) rfl rfl (by omega) (by omega) with ⟨e1, e2⟩ | ⟨N, hN1, hN2, rfl, e1, e2⟩
  · simp only [e1, e2, if_true]; exact Op2.same h0
  have f1 : (nI (Y + N) ≤ (200 : Int32)) = (Y + N ≤ 200) := leN (b := 200) (by omega) (by omega)
  simp only [e1, e2, z10, if_false, y1, y2, nI_add, f1]
  by_cases c : Y + N ≤ 200
  · rw [if_pos c, if_pos c]
    have key : ∀ n k O Z (σ τ : Mem), N - k < n → k ≤ N → Rel (Y + k) A P T O Z σ τ → Op2 (fX9_years_27 n σ (nI N) (nI k)) (fX10_years_27 n τ (nI N) (nI k)) := by
      intro n
      induction n with
      | zero => intro k O Z σ τ h; omega
      | succ n ih =>
        intro k O Z σ τ hn hk hR
        by_cases e : k = N
        · subst e
          rw [fX9_years_27, fX10_years_27]
          have fk : (nI k ≤ nI k) = True := eq_true (by rw [leN (by omega) (by omega)]; omega)
          simp only [fk, if_true, hR.1.1.1, hR.1.1.2.1]
          exact ⟨_, σ, τ, rfl, rfl, _, _, _, _, _, _, hR⟩
        · have fk : (nI N ≤ nI k) = False := by rw [leN (by omega) (by omega)]; exact eq_false (by omega)
          obtain ⟨σ', τ', O', Z', g1, g2, g3⟩ := year_both hR (by omega)
          rw [g1 n _ _ fk, fX10_years_27]
          simp only [fk, if_false, g2, boS, nIs]
          exact ih (k + 1) O' Z' σ' τ' (by omega) (by omega) g3
    exact key 300 0 O Z σ τ (by omega) (by omega) hrel
  · rw [if_neg c, if_neg c]; exact Op2.same h0
