theorem lgc {a b n : Nat} (ha : a < 2 ^ 31) (hb : b < 2 ^ 31) (hn : n < 2 ^ 31) : lg_cmp ((nI a).toInt64 + (nI b).toInt64) (nI n).toInt64 = if n < a + b then 1 else if a + b = n then 0 else -1 := by
  rw [nI_l ha, nI_l hb, nI_l hn, lN_add]
  unfold lg_cmp
  have e1 : (lN (a + b) > lN n) = (n < a + b) := propext (pk_lLT (by omega) (by omega))
  have e2 : (lN (a + b) = lN n) = (a + b = n) := propext (pk_lEQ (by omega) (by omega))
  simp only [e1, e2]
set_option maxHeartbeats 1000000 in
theorem copy_out {τ : Mem} {s q N : Nat} (hs : s < 4) (hq : q + N ≤ 200) : ∃ m, fX10_copy_149 300 τ (nI s) (nI q) (nI N) 0 = some (nI N, m) ∧ (∀ i, i ≠ 9 → m i = τ i) ∧ (∀ j, j < N → m 9 (200 * s + q + j) = τ 26 j) ∧ ∀ x, (x < 200 * s + q ∨ 200 * s + q + N ≤ x) → m 9 x = τ 9 x := by
  obtain ⟨m, ⟨h1, h2, h3⟩, h4⟩ := lp_up (S := Mem) (fun n m i => fX10_copy_149 n m (nI s) (nI q) (nI N) i) (fun m => some (nI N, m)) (fun k m => (∀ i, i ≠ 9 → m i = τ i) ∧ (∀ j, j < k → m 9 (200 * s + q + j) = τ 26 j) ∧ ∀ x, (x < 200 * s + q ∨ 200 * s + q + N ≤ x) → m 9 x = τ 9 x) N
    (fun n m _ => by show fX10_copy_149 (n + 1) m (nI s) (nI q) (nI N) (nI N) = _; unfold fX10_copy_149; rw [if_pos (by rw [leN (by omega) (by omega)]; omega)])
    (fun n k m hk ⟨h1, h2, h3⟩ => by
      refine ⟨mset m 9 (200 * s + q + k) (m 26 k), ⟨fun i hi => by rw [mset_ne hi, h1 i hi], fun j hj => ?_, fun x hx => ?_⟩, ?_⟩
      · by_cases e : j = k
        · subst e; rw [mg_e, h1 26 (by omega)]
        · rw [mg_k (by omega)]; exact h2 j (by omega)
      · rw [mg_k (by omega)]; exact h3 x hx
      · show fX10_copy_149 (n + 1) m (nI s) (nI q) (nI N) (nI k) = _
        have e5 : (200 : Int32) * nI s + nI q + nI k = nI (200 * s + q + k) := by rw [i200, pk_mul, nI_add, nI_add]
        rw [fX10_copy_149, if_neg (by rw [leN (by omega) (by omega)]; omega), if_pos (inbN (show k < 200 by omega) (by omega)), e5, if_pos (inbN (by omega) (by omega)), cN (show k < 2 ^ 31 by omega), cN (by omega), nIs, bmE])
    300 0 τ (by omega) (by omega) ⟨fun _ _ => rfl, fun _ h => by omega, fun _ _ => rfl⟩
  exact ⟨m, h4, h1, h2, h3⟩
set_option maxHeartbeats 1000000 in
theorem copy_in {τ : Mem} {s p N : Nat} {v3 v4 : Int32} (hs : s < 4) (hp : p + N ≤ 200) : ∃ m, fX10_copy_111 300 τ (nI s) (nI p) v3 v4 (nI N) 0 = fX10_copy_149 300 m v3 v4 (nI N) 0 ∧ (∀ i, i ≠ 26 → m i = τ i) ∧ (∀ j, j < N → m 26 j = τ 9 (200 * s + p + j)) := by
  obtain ⟨m, ⟨h1, h2⟩, h4⟩ := lp_up (S := Mem) (fun n m i => fX10_copy_111 n m (nI s) (nI p) v3 v4 (nI N) i) (fun m => fX10_copy_149 300 m v3 v4 (nI N) 0) (fun k m => (∀ i, i ≠ 26 → m i = τ i) ∧ (∀ j, j < k → m 26 j = τ 9 (200 * s + p + j))) N
    (fun n m _ => by show fX10_copy_111 (n + 1) m (nI s) (nI p) v3 v4 (nI N) (nI N) = _; rw [fX10_copy_111, if_pos (by rw [leN (by omega) (by omega)]; omega)])
    (fun n k m hk ⟨h1, h2⟩ => by
      refine ⟨mset m 26 k (m 9 (200 * s + p + k)), ⟨fun i hi => by rw [mset_ne hi, h1 i hi], fun j hj => ?_⟩, ?_⟩
      · by_cases e : j = k
        · subst e; rw [mg_e, h1 9 (by omega)]
        · rw [mg_k e]; exact h2 j (by omega)
      · show fX10_copy_111 (n + 1) m (nI s) (nI p) v3 v4 (nI N) (nI k) = _
        have e5 : (200 : Int32) * nI s + nI p + nI k = nI (200 * s + p + k) := by rw [i200, pk_mul, nI_add, nI_add]
        rw [fX10_copy_111, if_neg (by rw [leN (by omega) (by omega)]; omega), e5, if_pos (inbN (show 200 * s + p + k < 800 by omega) (by omega)), if_pos (inbN (show k < 200 by omega) (by omega)), cN (show k < 2 ^ 31 by omega), cN (by omega), nIs, bmE])
    300 0 τ (by omega) (by omega) ⟨fun _ _ => rfl, fun _ h => by omega⟩
  exact ⟨m, h4, h1, h2⟩
set_option maxHeartbeats 1000000 in
theorem places_iff {σ : Mem} {i n : Nat} {v w : Int32} (h : σ i 3 = nI n) (hn : n ≤ 200) : (fX7_hasPlaces σ i v w = 0 ∧ ∀ a b, a + b ≤ n → ¬ (v = nI a ∧ w = nI b)) ∨ ∃ a b, a + b ≤ n ∧ v = nI a ∧ w = nI b ∧ fX7_hasPlaces σ i v w = 1 := by
  unfold fX7_hasPlaces
  rw [isW, isW, h]
  rcases rng w 0 n (by omega) (by omega) with ⟨h1, h2⟩ | ⟨b, -, hb, rfl⟩
  · left
    have h1' : w < 0 ∨ nI n < w := h1
    refine ⟨by simp only [h1', if_true], fun a b hab ⟨_, e⟩ => h2 b (by omega) (by omega) e⟩
  · have g1 : ¬ (nI b < 0 ∨ nI n < nI b) := by rw [i0, ltN (by omega) (by omega), ltN (by omega) (by omega)]; omega
    rw [pk_sub hb]
    rcases rng v 0 (n - b) (by omega) (by omega) with ⟨h1, h2⟩ | ⟨a, -, ha, rfl⟩
    · left
      have h1' : v < 0 ∨ nI (n - b) < v := h1
      refine ⟨by simp only [g1, h1', if_true, if_false, z10], fun a b' hab ⟨e, e2⟩ => ?_⟩
      rw [eqN (by omega) (by omega)] at e2
      exact h2 a (by omega) (by omega) e
    · right
      have g2 : ¬ (nI a < 0 ∨ nI (n - b) < nI a) := by rw [i0, ltN (by omega) (by omega), ltN (by omega) (by omega)]; omega
      exact ⟨a, b, by omega, rfl, rfl, by simp only [g1, g2, if_false, z10]⟩
set_option maxHeartbeats 1000000 in
theorem op_copy {σ τ : Mem} (v1 v2 v3 v4 v5 : Int32) (h : RelE σ τ) : Op2 (fX9_copy σ v1 v2 v3 v4 v5) (fX10_copy τ v1 v2 v3 v4 v5) := by
  have h0 := h
  obtain ⟨Y, A, P, T, O, Z, hx, ha, hp, hr, hs, ht, hu, hb, ho⟩ := h
  have hxx := hx
  obtain ⟨⟨y1, y2, y3⟩, ⟨a1, a2, a3⟩, ⟨p1, p2, p3, p4⟩, ⟨t1, t2, t3⟩, ⟨o1, o2, o3⟩, ⟨z1, z2, z3⟩⟩ := hxx
  unfold fX9_copy fX10_copy
  rcases sh_or σ τ v1 with ⟨e1, e2⟩ | ⟨s, hs4, rfl, e1, e2⟩
  · simp only [e1, e2, if_true]; exact Op2.same h0
  simp only [e1, e2, z10, if_false]
  rcases sh_or σ τ v3 with ⟨e3, e4⟩ | ⟨u, hu4, rfl, e3, e4⟩
  · simp only [e3, e4, if_true]; exact Op2.same h0
  obtain ⟨q1, q2, n, hn, q3, q4, q5⟩ := hs s hs4
  obtain ⟨r1, r2, n', hn', r3, r4, r5⟩ := hs u hu4
  simp only [e3, e4, z10, if_false, cN (show s < 2 ^ 31 by omega), cN (show u < 2 ^ 31 by omega), inbN (show s < 4 by omega) (by omega), inbN (show u < 4 by omega) (by omega), if_true, rf5]
  rcases q1 with ⟨q1, q1'⟩ | ⟨q1, q1'⟩
  rotate_left
  · simp only [q1, q1', z10, if_true, if_false]; exact Op2.same h0
  simp only [q1, q1', z10, if_true, if_false]
  rcases r1 with ⟨r1, r1'⟩ | ⟨r1, r1'⟩
  rotate_left
  · simp only [r1, r1', z10, if_true, if_false]; exact Op2.same h0
  simp only [r1, r1', z10, if_true, if_false, q2, r2]
  by_cases c : τ 7 s = τ 7 u
  rotate_left
  · simp only [c, if_false]; exact Op2.same h0
  simp only [c, if_true, q4, r4]
  have bad : ∀ (X : Option (Int32 × Mem)), X = some ((-1000000013), τ) → Op2 (some ((-1000000013), σ)) X := fun X e => by rw [e]; exact Op2.same h0
  -- the reference's test
  by_cases c2 : v2 < 0
  · simp only [c2, if_true]
    rcases places_iff (v := v2) (w := v5) q3 hn with ⟨g, -⟩ | ⟨a, b, hab, rfl, rfl, g⟩
    · simp only [g, if_true]; exact Op2.same h0
    · exact absurd c2 (by rw [i0, ltN (by omega) (by omega)]; omega)
  obtain ⟨a, ha31, rfl⟩ := nI_of c2
  simp only [c2, if_false]
  by_cases c3 : v4 < 0
  · simp only [c3, if_true]
    rcases places_iff (v := nI a) (w := v5) q3 hn with ⟨g, -⟩ | ⟨a2, b, hab, e9, rfl, g⟩
    · simp only [g, if_true]; exact Op2.same h0
    rcases places_iff (v := v4) (w := nI b) r3 hn' with ⟨g', -⟩ | ⟨a', b', hab', rfl, e8, g'⟩
    · simp only [g, g', z10, if_true, if_false]; exact Op2.same h0
    · exact absurd c3 (by rw [i0, ltN (by omega) (by omega)]; omega)
  obtain ⟨a', ha31', rfl⟩ := nI_of c3
  simp only [c3, if_false]
  by_cases c4 : v5 < 0
  · simp only [c4, if_true]
    rcases places_iff (v := nI a) (w := v5) q3 hn with ⟨g, -⟩ | ⟨a2, b, hab, e9, rfl, g⟩
    · simp only [g, if_true]; exact Op2.same h0
    · exact absurd c4 (by rw [i0, ltN (by omega) (by omega)]; omega)
  obtain ⟨N, hN31, rfl⟩ := nI_of c4
  simp only [c4, if_false, lgc ha31 hN31 (show n < 2 ^ 31 by omega), lgc ha31' hN31 (show n' < 2 ^ 31 by omega)]
  by_cases d1 : n < a + N
  · rw [if_pos (show (0 : Int32) < if n < a + N then 1 else if a + N = n then 0 else -1 by rw [if_pos d1]; decide)]
    rcases places_iff (v := nI a) (w := nI N) q3 hn with ⟨g, -⟩ | ⟨a2, b, hab, e9, e8, g⟩
    · simp only [g, if_true]; exact Op2.same h0
    · rw [eqN (by omega) (by omega)] at e9 e8; omega
  have hl1 : ¬ (0 : Int32) < if n < a + N then 1 else if a + N = n then 0 else -1 := by
    rw [if_neg d1]; by_cases e : a + N = n
    · rw [if_pos e]; decide
    · rw [if_neg e]; decide
  rw [if_neg hl1]
  have g : fX7_hasPlaces σ (36 + s) (nI a) (nI N) = 1 := by
    rcases places_iff (v := nI a) (w := nI N) q3 hn with ⟨g, g2⟩ | ⟨a2, b, hab, e9, e8, g⟩
    · exact absurd ⟨rfl, rfl⟩ (g2 a N (by omega))
    · exact g
  by_cases d2 : n' < a' + N
  · rw [if_neg (show ¬ (if n' < a' + N then (1 : Int32) else if a' + N = n' then 0 else -1) ≤ 0 by rw [if_pos d2]; decide)]
    rcases places_iff (v := nI a') (w := nI N) r3 hn' with ⟨g', -⟩ | ⟨a2, b, hab, e9, e8, g'⟩
    · simp only [g, g', z10, if_true, if_false]; exact Op2.same h0
    · rw [eqN (by omega) (by omega)] at e9 e8; omega
  have hl2 : (if n' < a' + N then (1 : Int32) else if a' + N = n' then 0 else -1) ≤ 0 := by
    rw [if_neg d2]; by_cases e : a' + N = n'
    · rw [if_pos e]; decide
    · rw [if_neg e]; decide
  rw [if_pos hl2]
  have g' : fX7_hasPlaces σ (36 + u) (nI a') (nI N) = 1 := by
    rcases places_iff (v := nI a') (w := nI N) r3 hn' with ⟨g, g2⟩ | ⟨a2, b, hab, e9, e8, g⟩
    · exact absurd ⟨rfl, rfl⟩ (g2 a' N (by omega))
    · exact g
  have hcp : cpok (nI a) (nI a') (nI N) 200 200 = true := by
    apply decide_eq_true
    refine ⟨c2, c3, c4, ?_, ?_⟩
    · rw [cN ha31, cN hN31]; omega
    · rw [cN ha31', cN hN31]; omega
  simp only [g, g', z10, if_false, hcp, if_true, bmE]
  obtain ⟨m1, k1, k2, k3⟩ := copy_in (τ := τ) (s := s) (p := a) (N := N) (v3 := nI u) (v4 := nI a') hs4 (by omega)
  obtain ⟨m2, l1, l2, l3, l4⟩ := copy_out (τ := m1) (s := u) (q := a') (N := N) hu4 (by omega)
  rw [k1, l1]
  refine ⟨nI N, _, m2, rfl, rfl, ?_⟩
  have eX : mcpy σ (rfX (36 + s) 0) (rfX (36 + u) 0) (nI a) (nI a') (nI N) = va_up σ (40 + u) (va_cpy (σ (40 + s)) (σ (40 + u)) a a' N) := by
    unfold mcpy; rw [rf_sh hs4, rf_sh hu4, cN ha31, cN ha31', cN hN31]
  rw [eX]
  have hX : ∀ i, i ≠ 40 + u → va_up σ (40 + u) (va_cpy (σ (40 + s)) (σ (40 + u)) a a' N) i = σ i := fun i h1 => by simp [va_up, h1]
  have hM : ∀ i, i ≠ 9 → i ≠ 26 → m2 i = τ i := fun i h1 h2 => by rw [l2 i h1, k2 i h2]
  refine ⟨Y, A, P, T, O, Z, ?_, ?_, ?_, ?_, ?_, ?_, ?_, ?_, ?_⟩
  · exact hx.cg (by rw [hX 0 (by omega)]) (by rw [hM 0 (by omega) (by omega)]) (by rw [hX 1 (by omega)]) (by rw [hM 0 (by omega) (by omega)]) (by rw [hX 9 (by omega)]) (by rw [hM 0 (by omega) (by omega)]) (by rw [hX 6 (by omega)]) (by rw [hM 0 (by omega) (by omega)]) (by rw [hX 11 (by omega)]) (by rw [hM 0 (by omega) (by omega)]) (by rw [hX 11 (by omega)]) (by rw [hM 0 (by omega) (by omega)])
  · exact ha.cg (fun i hi k hk => by rw [hX (16 + i) (by omega)]) (hM 1 (by omega) (by omega)) (hM 2 (by omega) (by omega)) (hM 3 (by omega) (by omega)) (hM 4 (by omega) (by omega))
  · exact hp.cg (fun i hi => by rw [hX (16 + i) (by omega)]) (hM 19 (by omega) (by omega))
  · exact hr.cg (hX 15 (by omega)) (hM 5 (by omega) (by omega))
  · intro s' hs'
    rw [hX (36 + s') (by omega), hM 6 (by omega) (by omega), hM 7 (by omega) (by omega), hM 8 (by omega) (by omega)]
    obtain ⟨t1, t2, n2, hn2, t3, t4, t5⟩ := hs s' hs'
    refine ⟨t1, t2, n2, hn2, t3, t4, fun j hj => ?_⟩
    by_cases e : s' = u
    · subst e
      have en : n2 = n' := by rw [r4, eqN (by omega) (by omega)] at t4; exact t4.symm
      subst en
      have e1 : va_up σ (40 + s') (va_cpy (σ (40 + s)) (σ (40 + s')) a a' N) (40 + s') j = va_cpy (σ (40 + s)) (σ (40 + s')) a a' N j := by simp [va_up]
      rw [e1]
      by_cases e2 : a' ≤ j ∧ j < a' + N
      · rw [pk_cpy_in e2.1 e2.2]
        have e3 : m2 9 (200 * s' + j) = τ 9 (200 * s + (a + (j - a'))) := by
          have := l3 (j - a') (by omega)
          rw [show 200 * s' + a' + (j - a') = 200 * s' + j by omega, k3 (j - a') (by omega)] at this
          rw [this, Nat.add_assoc]
        rw [e3]
        exact q5 (a + (j - a')) (by omega)
      · rw [pk_cpy_out (by omega)]
        rw [l4 _ (by omega), k2 9 (by omega)]; exact t5 j hj
    · rw [hX (40 + s') (by omega)]
      rw [l4 _ (by omega), k2 9 (by omega)]; exact t5 j hj
  · exact ht.cg (hX 7 (by omega)) (hM 10 (by omega) (by omega))
  · exact hu.cg (fun i hi => hX (44 + i) (by omega)) (fun i hi => hX (64 + i) (by omega)) (fun k h1 h2 => hM k (by omega) (by omega)) (by rw [hM 0 (by omega) (by omega)])
  · exact hb.cg (hX 12 (by omega)) (hM 20 (by omega) (by omega))
  · exact ho.cg (hX 14 (by omega)) (hM 21 (by omega) (by omega))
