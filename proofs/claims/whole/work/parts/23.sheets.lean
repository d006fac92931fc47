theorem bmE {α : Type} (m : Mem) (k : Mem → α) : bm m k = k m := by rw [bm]
theorem biE {α : Type} (x : Int32) (k : Int32 → α) : bi x k = k x := by rw [bi]
theorem boS {α β : Type} (z : α) (k : α → Option β) : bo (some z) k = k z := by rw [bo]
theorem sh_or (σ τ : Mem) (v : Int32) : (fX9_isSheet σ v = 0 ∧ fX10_isSheet τ v = 0) ∨ ∃ k, k < 4 ∧ v = nI k ∧ fX9_isSheet σ v = 1 ∧ fX10_isSheet τ v = 1 := by
  unfold fX9_isSheet fX10_isSheet
  rcases win_or σ τ v 0 3 (lo := 0) (hi := 3) rfl rfl (by omega) (by omega) with h | ⟨k, -, hk, h⟩
  · exact Or.inl h
  · exact Or.inr ⟨k, by omega, h⟩
set_option maxHeartbeats 1000000 in
theorem op_lose {σ τ : Mem} (v1 : Int32) (h : RelE σ τ) : Op2 (fX9_lose σ v1) (fX10_lose_ τ v1) := by
  have h0 := h
  obtain ⟨Y, A, P, T, O, Z, hx, ha, hp, hr, hs, ht, hu, hb, ho⟩ := h
  have hxx := hx
  obtain ⟨⟨y1, y2, y3⟩, ⟨a1, a2, a3⟩, ⟨p1, p2, p3, p4⟩, ⟨t1, t2, t3⟩, ⟨o1, o2, o3⟩, ⟨z1, z2, z3⟩⟩ := hxx
  unfold fX9_lose fX10_lose_
  rcases sh_or σ τ v1 with ⟨e1, e2⟩ | ⟨s, hs4, rfl, e1, e2⟩
  · simp only [e1, e2, if_true]; exact Op2.same h0
  have ca := cN (show s < 2 ^ 31 by omega)
  have ia := inbN (show s < 4 by omega) (by omega)
  obtain ⟨q1, q2, n, hn, q3, q4, q5⟩ := hs s hs4
  simp only [e1, e2, z10, if_false, ca, ia, if_true, rf5]
  rcases q1 with ⟨q1, q1'⟩ | ⟨q1, q1'⟩
  · simp only [q1, q1', z10, if_true, if_false, bmE]
    rw [mg_k (by omega), mg_i (by omega), q3, q4]
    refine ⟨nI n, _, _, rfl, rfl, ?_⟩
    have hX : ∀ i, i ≠ 36 + s → mset σ (36 + s) 1 1 i = σ i := fun i h1 => mset_ne h1
    have hM : ∀ i, i ≠ 6 → mset τ 6 s 0 i = τ i := fun i h1 => mset_ne h1
    refine ⟨Y, A, P, T, O, Z, ?_, ?_, ?_, ?_, ?_, ?_, ?_, ?_, ?_⟩
    · exact hx.cg (by rw [hX 0 (by omega)]) (by rw [hM 0 (by omega)]) (by rw [hX 1 (by omega)]) (by rw [hM 0 (by omega)]) (by rw [hX 9 (by omega)]) (by rw [hM 0 (by omega)]) (by rw [hX 6 (by omega)]) (by rw [hM 0 (by omega)]) (by rw [hX 11 (by omega)]) (by rw [hM 0 (by omega)]) (by rw [hX 11 (by omega)]) (by rw [hM 0 (by omega)])
    · exact ha.cg (fun i hi k hk => by rw [hX (16 + i) (by omega)]) (hM 1 (by omega)) (hM 2 (by omega)) (hM 3 (by omega)) (hM 4 (by omega))
    · exact hp.cg (fun i hi => by rw [hX (16 + i) (by omega)]) (hM 19 (by omega))
    · exact hr.cg (hX 15 (by omega)) (hM 5 (by omega))
    · intro s' hs'
      rw [hX (40 + s') (by omega), hM 7 (by omega), hM 8 (by omega), hM 9 (by omega)]
      by_cases e : s' = s
      · subst e
        rw [mg_k (show (2 : Nat) ≠ 1 by omega), mg_k (show (3 : Nat) ≠ 1 by omega), mg_e, mg_e]
        exact ⟨Or.inr ⟨rfl, rfl⟩, q2, n, hn, q3, q4, q5⟩
      · rw [hX (36 + s') (by omega), mg_k e]; exact hs s' hs'
    · exact ht.cg (hX 7 (by omega)) (hM 10 (by omega))
    · exact hu.cg (fun i hi => hX (44 + i) (by omega)) (fun i hi => hX (64 + i) (by omega)) (fun k h1 h2 => hM k (by omega)) (by rw [hM 0 (by omega)])
    · exact hb.cg (hX 12 (by omega)) (hM 20 (by omega))
    · exact ho.cg (hX 14 (by omega)) (hM 21 (by omega))
  · simp only [q1, q1', z10, if_true, if_false]; exact Op2.same h0
set_option maxHeartbeats 1000000 in
theorem op_enter {σ τ : Mem} (v1 v2 v3 : Int32) (h : RelE σ τ) : Op2 (fX9_enter σ v1 v2 v3) (fX10_enter τ v1 v2 v3) := by
  have h0 := h
  obtain ⟨Y, A, P, T, O, Z, hx, ha, hp, hr, hs, ht, hu, hb, ho⟩ := h
  have hxx := hx
  obtain ⟨⟨y1, y2, y3⟩, ⟨a1, a2, a3⟩, ⟨p1, p2, p3, p4⟩, ⟨t1, t2, t3⟩, ⟨o1, o2, o3⟩, ⟨z1, z2, z3⟩⟩ := hxx
  unfold fX9_enter fX10_enter
  rcases sh_or σ τ v1 with ⟨e1, e2⟩ | ⟨s, hs4, rfl, e1, e2⟩
  · simp only [e1, e2, if_true]; exact Op2.same h0
  have ca := cN (show s < 2 ^ 31 by omega)
  have ia := inbN (show s < 4 by omega) (by omega)
  obtain ⟨q1, q2, n, hn, q3, q4, q5⟩ := hs s hs4
  simp only [e1, e2, z10, if_false, ca, ia, if_true, rf5]
  rcases q1 with ⟨q1, q1'⟩ | ⟨q1, q1'⟩
  · simp only [q1, q1', z10, if_true, if_false, q3, q4]
    rw [isW, isI]
    rcases rng1 v2 n (by omega) with ⟨h1, -⟩ | ⟨j, hj, rfl, h1⟩
    · simp only [h1, if_true]; exact Op2.same h0
    simp only [h1, if_false, z10]
    unfold fX7_mostInPlace
    rw [q2]
    have e5 : (200 : Int32) * nI s + nI j = nI (200 * s + j) := by rw [i200, pk_mul, nI_add]
    have go : ∀ (m : Nat) (hi : Int32), hi = nI m → m ≤ 1000 → Op2 (if fX9_isWithin σ v3 0 hi = 0 then some ((-1000000001), σ) else bo (fX7_write σ (36 + s) (nI j) v3) (fun z1 => some (z1.1, z1.2))) (fX10_enter_60 τ (nI s) (nI j) v3 v3 0 hi) := by
      intro m hi em hm
      unfold fX10_enter_60
      rcases win_or σ τ v3 0 m (lo := 0) (hi := hi) rfl em (by omega) (by omega) with ⟨e3, e4⟩ | ⟨x, -, hx2, rfl, e3, e4⟩
      · simp only [e3, e4, if_true]; exact Op2.same h0
      unfold fX7_write
      simp only [e3, e4, z10, if_false, e5, cN (show j < 2 ^ 31 by omega), inbN (show j < 200 by omega) (by omega), cN (show 200 * s + j < 2 ^ 31 by omega), inbN (show 200 * s + j < 800 by omega) (by omega), if_true, biE, bmE, boS, rf_sh hs4, (q5 j hj).1]
      refine ⟨τ 9 (200 * s + j), _, _, rfl, rfl, ?_⟩
      have hX : ∀ i, i ≠ 40 + s → mset σ (40 + s) j (nI x) i = σ i := fun i h1 => mset_ne h1
      have hM : ∀ i, i ≠ 9 → mset τ 9 (200 * s + j) (nI x) i = τ i := fun i h1 => mset_ne h1
      refine ⟨Y, A, P, T, O, Z, ?_, ?_, ?_, ?_, ?_, ?_, ?_, ?_, ?_⟩
      · exact hx.cg (by rw [hX 0 (by omega)]) (by rw [hM 0 (by omega)]) (by rw [hX 1 (by omega)]) (by rw [hM 0 (by omega)]) (by rw [hX 9 (by omega)]) (by rw [hM 0 (by omega)]) (by rw [hX 6 (by omega)]) (by rw [hM 0 (by omega)]) (by rw [hX 11 (by omega)]) (by rw [hM 0 (by omega)]) (by rw [hX 11 (by omega)]) (by rw [hM 0 (by omega)])
      · exact ha.cg (fun i hi k hk => by rw [hX (16 + i) (by omega)]) (hM 1 (by omega)) (hM 2 (by omega)) (hM 3 (by omega)) (hM 4 (by omega))
      · exact hp.cg (fun i hi => by rw [hX (16 + i) (by omega)]) (hM 19 (by omega))
      · exact hr.cg (hX 15 (by omega)) (hM 5 (by omega))
      · intro s' hs'
        rw [hX (36 + s') (by omega), hM 6 (by omega), hM 7 (by omega), hM 8 (by omega)]
        obtain ⟨r1, r2, n', hn', r3, r4, r5⟩ := hs s' hs'
        refine ⟨r1, r2, n', hn', r3, r4, fun j' hj' => ?_⟩
        by_cases e : s' = s
        · subst e
          by_cases e2 : j' = j
          · subst e2; rw [mg_e, mg_e]; exact ⟨rfl, x, by omega, rfl⟩
          · rw [mg_k e2, mg_k (by omega)]; exact r5 j' hj'
        · rw [hX (40 + s') (by omega), mg_k (by omega)]; exact r5 j' hj'
      · exact ht.cg (hX 7 (by omega)) (hM 10 (by omega))
      · exact hu.cg (fun i hi => hX (44 + i) (by omega)) (fun i hi => hX (64 + i) (by omega)) (fun k h1 h2 => hM k (by omega)) (by rw [hM 0 (by omega)])
      · exact hb.cg (hX 12 (by omega)) (hM 20 (by omega))
      · exact ho.cg (hX 14 (by omega)) (hM 21 (by omega))
    by_cases c : τ 7 s = 0
    · simp only [c, if_true]; exact go 100 100 rfl (by omega)
    · simp only [c, if_false]; exact go 1000 1000 rfl (by omega)
  · simp only [q1, q1', z10, if_true, if_false]; exact Op2.same h0
set_option maxHeartbeats 1000000 in
theorem begin_zero {σ : Mem} {s : Nat} (hs : s < 4) : ∃ m, fX7_begin_17 300 σ (36 + s) 0 = some m ∧ (∀ i, i ≠ 40 + s → m i = σ i) ∧ ∀ j, j < 200 → m (40 + s) j = 0 := by
  obtain ⟨m, ⟨h1, h2⟩, h3⟩ := lp_up (S := Mem) (fun n m i => fX7_begin_17 n m (36 + s) i) (fun m => some m) (fun k m => (∀ i, i ≠ 40 + s → m i = σ i) ∧ ∀ j, j < k → m (40 + s) j = 0) 200
    (fun n m _ => by show fX7_begin_17 (n + 1) m (36 + s) (nI 200) = some m; unfold fX7_begin_17; rw [if_pos (by decide)])
    (fun n k m hk ⟨h1, h2⟩ => by
      refine ⟨mset m (40 + s) k 0, ⟨fun i hi => by rw [mset_ne hi, h1 i hi], fun j hj => ?_⟩, ?_⟩
      · by_cases e : j = k
        · subst e; exact mg_e
        · rw [mg_k e]; exact h2 j (by omega)
      · show fX7_begin_17 (n + 1) m (36 + s) (nI k) = _
        rw [fX7_begin_17, if_neg (by rw [i200, leN (by omega) (by omega)]; omega), if_pos (inbN (by omega) (by omega)), cN (by omega), rf_sh hs, nIs]; rfl)
    300 0 σ (by omega) (by omega) ⟨fun _ _ => rfl, fun _ h => by omega⟩
  exact ⟨m, h3, h1, h2⟩
set_option maxHeartbeats 1000000 in
theorem sheet_zero {τ : Mem} {s N : Nat} (hs : s < 4) (hN : N ≤ 200) : ∃ m, fX10_sheet_57 300 τ (nI s) (nI N) 0 = some (nI N, m) ∧ (∀ i, i ≠ 9 → m i = τ i) ∧ (∀ j, j < N → m 9 (200 * s + j) = 0) ∧ ∀ x, (x < 200 * s ∨ 200 * s + N ≤ x) → m 9 x = τ 9 x := by
  obtain ⟨m, ⟨h1, h2, h3⟩, h4⟩ := lp_up (S := Mem) (fun n m i => fX10_sheet_57 n m (nI s) (nI N) i) (fun m => some (nI N, m)) (fun k m => (∀ i, i ≠ 9 → m i = τ i) ∧ (∀ j, j < k → m 9 (200 * s + j) = 0) ∧ ∀ x, (x < 200 * s ∨ 200 * s + N ≤ x) → m 9 x = τ 9 x) N
    (fun n m _ => by show fX10_sheet_57 (n + 1) m (nI s) (nI N) (nI N) = _; unfold fX10_sheet_57; rw [if_pos (by rw [leN (by omega) (by omega)]; omega)])
    (fun n k m hk ⟨h1, h2, h3⟩ => by
      refine ⟨mset m 9 (200 * s + k) 0, ⟨fun i hi => by rw [mset_ne hi, h1 i hi], fun j hj => ?_, fun x hx => ?_⟩, ?_⟩
      · by_cases e : j = k
        · subst e; exact mg_e
        · rw [mg_k (by omega)]; exact h2 j (by omega)
      · rw [mg_k (by omega)]; exact h3 x hx
      · show fX10_sheet_57 (n + 1) m (nI s) (nI N) (nI k) = _
        have e5 : (200 : Int32) * nI s + nI k = nI (200 * s + k) := by rw [i200, pk_mul, nI_add]
        rw [fX10_sheet_57, if_neg (by rw [leN (by omega) (by omega)]; omega), e5, if_pos (inbN (by omega) (by omega)), cN (by omega), nIs]; rfl)
    300 0 τ (by omega) (by omega) ⟨fun _ _ => rfl, fun _ h => by omega, fun _ _ => rfl⟩
  exact ⟨m, h4, h1, h2, h3⟩
set_option maxHeartbeats 1000000 in
theorem op_sheet {σ τ : Mem} (v1 v2 v3 : Int32) (h : RelE σ τ) : Op2 (fX9_sheet σ v1 v2 v3) (fX10_sheet τ v1 v2 v3) := by
  have h0 := h
  obtain ⟨Y, A, P, T, O, Z, hx, ha, hp, hr, hs, ht, hu, hb, ho⟩ := h
  have hxx := hx
  obtain ⟨⟨y1, y2, y3⟩, ⟨a1, a2, a3⟩, ⟨p1, p2, p3, p4⟩, ⟨t1, t2, t3⟩, ⟨o1, o2, o3⟩, ⟨z1, z2, z3⟩⟩ := hxx
  unfold fX9_sheet fX10_sheet
  rcases sh_or σ τ v1 with ⟨e1, e2⟩ | ⟨s, hs4, rfl, e1, e2⟩
  · simp only [e1, e2, if_true]; exact Op2.same h0
  simp only [e1, e2, z10, if_false]
  rcases win_or σ τ v2 0 2 (lo := 0) (hi := 2) rfl rfl (by omega) (by omega) with ⟨e3, e4⟩ | ⟨wd, -, hwd, rfl, e3, e4⟩
  · simp only [e3, e4, if_true]; exact Op2.same h0
  simp only [e3, e4, z10, if_false]
  by_cases c1 : v3 ≤ 200
  · simp only [c1, if_true]
    by_cases c2 : 0 ≤ v3
    · simp only [c2, if_true]
      obtain ⟨N, hN, rfl⟩ := nI_of (x := v3) (fun h => by have := Int32.lt_of_lt_of_le h c2; exact absurd this (Int32.lt_irrefl))
      have hN2 : N ≤ 200 := by rw [i200, leN (by omega) (by omega)] at c1; exact c1
      simp only [inbN (show s < 4 by omega) (by omega), cN (show s < 2 ^ 31 by omega), if_true, rf5, bmE]
      unfold fX7_begin
      simp only [bmE]
      obtain ⟨m, g1, g2, g3⟩ := begin_zero (σ := mset (mset (mset σ (36 + s) 1 0) (36 + s) 2 (nI wd)) (36 + s) 3 (nI N)) hs4
      obtain ⟨m', k1, k2, k3, k4⟩ := sheet_zero (τ := mset (mset (mset τ 6 s 1) 7 s (nI wd)) 8 s (nI N)) hs4 hN2
      rw [g1, k1, boS]
      refine ⟨nI N, m, m', rfl, rfl, ?_⟩
      have hX : ∀ i, i ≠ 36 + s → i ≠ 40 + s → m i = σ i := fun i h1 h2 => by rw [g2 i h2, mset_ne h1, mset_ne h1, mset_ne h1]
      have hM : ∀ i, i ≠ 6 → i ≠ 7 → i ≠ 8 → i ≠ 9 → m' i = τ i := fun i h1 h2 h3 h4 => by rw [k2 i h4, mset_ne h3, mset_ne h2, mset_ne h1]
      have hs6 : ∀ j, j ≠ s → m' 6 j = τ 6 j := fun j hj => by rw [k2 6 (by omega), mg_i (by omega), mg_i (by omega), mg_k hj]
      have hs7 : ∀ j, j ≠ s → m' 7 j = τ 7 j := fun j hj => by rw [k2 7 (by omega), mg_i (by omega), mg_k hj, mg_i (by omega)]
      have hs8 : ∀ j, j ≠ s → m' 8 j = τ 8 j := fun j hj => by rw [k2 8 (by omega), mg_k hj, mg_i (by omega), mg_i (by omega)]
      refine ⟨Y, A, P, T, O, Z, ?_, ?_, ?_, ?_, ?_, ?_, ?_, ?_, ?_⟩
      · exact hx.cg (by rw [hX 0 (by omega) (by omega)]) (by rw [hM 0 (by omega) (by omega) (by omega) (by omega)]) (by rw [hX 1 (by omega) (by omega)]) (by rw [hM 0 (by omega) (by omega) (by omega) (by omega)]) (by rw [hX 9 (by omega) (by omega)]) (by rw [hM 0 (by omega) (by omega) (by omega) (by omega)]) (by rw [hX 6 (by omega) (by omega)]) (by rw [hM 0 (by omega) (by omega) (by omega) (by omega)]) (by rw [hX 11 (by omega) (by omega)]) (by rw [hM 0 (by omega) (by omega) (by omega) (by omega)]) (by rw [hX 11 (by omega) (by omega)]) (by rw [hM 0 (by omega) (by omega) (by omega) (by omega)])
      · exact ha.cg (fun i hi k hk => by rw [hX (16 + i) (by omega) (by omega)]) (hM 1 (by omega) (by omega) (by omega) (by omega)) (hM 2 (by omega) (by omega) (by omega) (by omega)) (hM 3 (by omega) (by omega) (by omega) (by omega)) (hM 4 (by omega) (by omega) (by omega) (by omega))
      · exact hp.cg (fun i hi => by rw [hX (16 + i) (by omega) (by omega)]) (hM 19 (by omega) (by omega) (by omega) (by omega))
      · exact hr.cg (hX 15 (by omega) (by omega)) (hM 5 (by omega) (by omega) (by omega) (by omega))
      · intro s' hs'
        by_cases e : s' = s
        · subst e
          rw [g2 (36 + s') (by omega), k2 6 (by omega), k2 7 (by omega), k2 8 (by omega)]
          refine ⟨Or.inl ⟨?_, ?_⟩, ?_, N, hN2, mg_e, mg_e, fun j hj => ?_⟩
          · rw [mg_k (by omega), mg_k (by omega), mg_e]
          · rw [mg_i (by omega), mg_i (by omega), mg_e]
          · rw [mg_k (by omega), mg_e, mg_i (by omega), mg_e]
          · rw [g3 j (by omega), k3 j hj]; exact ⟨rfl, 0, by omega, rfl⟩
        · obtain ⟨r1, r2, n', hn', r3, r4, r5⟩ := hs s' hs'
          rw [hX (36 + s') (by omega) (by omega), hX (40 + s') (by omega) (by omega), hs6 s' e, hs7 s' e, hs8 s' e]
          refine ⟨r1, r2, n', hn', r3, r4, fun j' hj' => ?_⟩
          have : m' 9 (200 * s' + j') = τ 9 (200 * s' + j') := by
            rw [k4 _ (by omega), mg_i (by omega), mg_i (by omega), mg_i (by omega)]
          rw [this]; exact r5 j' hj'
      · exact ht.cg (hX 7 (by omega) (by omega)) (hM 10 (by omega) (by omega) (by omega) (by omega))
      · exact hu.cg (fun i hi => hX (44 + i) (by omega) (by omega)) (fun i hi => hX (64 + i) (by omega) (by omega)) (fun k h1 h2 => hM k (by omega) (by omega) (by omega) (by omega)) (by rw [hM 0 (by omega) (by omega) (by omega) (by omega)])
      · exact hb.cg (hX 12 (by omega) (by omega)) (hM 20 (by omega) (by omega) (by omega) (by omega))
      · exact ho.cg (hX 14 (by omega) (by omega)) (hM 21 (by omega) (by omega) (by omega) (by omega))
    · simp only [c2, if_false]; exact Op2.same h0
  · simp only [c1, if_false]; exact Op2.same h0
