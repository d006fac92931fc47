set_option maxHeartbeats 1000000 in
theorem Rel.chosen {Y A P T O Z : Nat} {σ τ σ' τ' : Mem} (h : Rel Y A P T O Z σ τ) (hX : ∀ i, ¬ (16 ≤ i ∧ i < 26) → σ' i = σ i) (hX5 : ∀ i, i < 10 → ∀ k, k ≠ 5 → σ' (16 + i) k = σ (16 + i) k) (hM : ∀ i, i ≠ 27 → τ' i = τ i) : Rel Y A P T O Z σ' τ' := by
  obtain ⟨hx, ha, hp, hr, hs, ht, hu, hb, ho⟩ := h
  refine ⟨?_, ?_, ?_, ?_, ?_, ?_, ?_, ?_, ?_⟩
  · exact hx.cg (by rw [hX 0 (by omega)]) (by rw [hM 0 (by omega)]) (by rw [hX 1 (by omega)]) (by rw [hM 0 (by omega)]) (by rw [hX 9 (by omega)]) (by rw [hM 0 (by omega)]) (by rw [hX 6 (by omega)]) (by rw [hM 0 (by omega)]) (by rw [hX 11 (by omega)]) (by rw [hM 0 (by omega)]) (by rw [hX 11 (by omega)]) (by rw [hM 0 (by omega)])
  · exact ha.cg (fun i hi k hk => hX5 i hi k (by omega)) (hM 1 (by omega)) (hM 2 (by omega)) (hM 3 (by omega)) (hM 4 (by omega))
  · exact hp.cg (fun i hi => hX5 i hi 4 (by omega)) (hM 19 (by omega))
  · exact hr.cg (hX 15 (by omega)) (hM 5 (by omega))
  · exact hs.cg (fun i hi => hX (36 + i) (by omega)) (fun i hi => hX (40 + i) (by omega)) (hM 6 (by omega)) (hM 7 (by omega)) (hM 8 (by omega)) (hM 9 (by omega))
  · exact ht.cg (hX 7 (by omega)) (hM 10 (by omega))
  · exact hu.cg (fun i hi => hX (44 + i) (by omega)) (fun i hi => hX (64 + i) (by omega)) (fun k h1 h2 => hM k (by omega)) (by rw [hM 0 (by omega)])
  · exact hb.cg (hX 12 (by omega)) (hM 20 (by omega))
  · exact ho.cg (hX 14 (by omega)) (hM 21 (by omega))
theorem forget_eq {σ : Mem} {A : Nat} (hA : σ 1 1 = nI A) (hA2 : A ≤ 10) : ∃ σ', fX2_forgetChosen σ 1 = some σ' ∧ (∀ i, ¬ (16 ≤ i ∧ i < 26) → σ' i = σ i) ∧ (∀ i, i < A → σ' (16 + i) 5 = 0) ∧ ∀ i, i < 10 → ∀ k, k ≠ 5 → σ' (16 + i) k = σ (16 + i) k := by
  unfold fX2_forgetChosen
  obtain ⟨m, ⟨h1, h2, h4⟩, h3⟩ := lp_up (S := Mem) (fun n m i => fX2_forgetChosen_2 n m 1 i) (fun m => some m) (fun k m => (∀ i, ¬ (16 ≤ i ∧ i < 26) → m i = σ i) ∧ (∀ i, i < k → m (16 + i) 5 = 0) ∧ ∀ i, i < 10 → ∀ k, k ≠ 5 → m (16 + i) k = σ (16 + i) k) A
    (fun n m ⟨h1, h2, h4⟩ => by
      show fX2_forgetChosen_2 (n + 1) m 1 (nI A) = some m
      rw [fX2_forgetChosen_2, h1 1 (by omega), hA, if_pos (by rw [leN (by omega) (by omega)]; omega)])
    (fun n k m hk ⟨h1, h2, h4⟩ => by
      refine ⟨mset m (16 + k) 5 0, ⟨fun i a => by rw [mset_ne (by omega)]; exact h1 i a, fun i hi => ?_, fun i hi l hl => ?_⟩, ?_⟩
      · by_cases e : i = k
        · subst e; exact mg_e
        · rw [mg_i (by omega)]; exact h2 i (by omega)
      · by_cases e : i = k
        · subst e; rw [mg_k hl]; exact h4 i hi l hl
        · rw [mg_i (by omega)]; exact h4 i hi l hl
      · have fk : (nI A ≤ nI k) = False := by rw [leN (by omega) (by omega)]; exact eq_false (by omega)
        show fX2_forgetChosen_2 (n + 1) m 1 (nI k) = _
        rw [fX2_forgetChosen_2, h1 1 (by omega), hA]
        simp only [fk, if_false, inbN (show k < 10 by omega) (show 10 < 2 ^ 31 by omega), if_true, cN (show k < 2 ^ 31 by omega), rf1, rf3, bmE, nIs])
    300 0 σ (by omega) (by omega) ⟨fun _ _ => rfl, fun _ h => by omega, fun _ _ _ _ => rfl⟩
  exact ⟨m, h3, h1, h2, h4⟩
theorem keep2_eq {τ : Mem} {A : Nat} (hA : τ 0 1 = nI A) (hA2 : A ≤ 10) : ∃ τ', fX10_keep τ = fX10_keep_25 300 τ' 0 ∧ (∀ i, i ≠ 27 → τ' i = τ i) ∧ (∀ i, i < A → τ' 27 i = 0) := by
  unfold fX10_keep
  obtain ⟨m, ⟨h1, h2⟩, h3⟩ := lp_up (S := Mem) (fun n m i => fX10_keep_2 n m i) (fun m => fX10_keep_25 300 m 0) (fun k m => (∀ i, i ≠ 27 → m i = τ i) ∧ (∀ i, i < k → m 27 i = 0)) A
    (fun n m ⟨h1, h2⟩ => by
      show fX10_keep_2 (n + 1) m (nI A) = _
      rw [fX10_keep_2, h1 0 (by omega), hA, if_pos (by rw [leN (by omega) (by omega)]; omega)])
    (fun n k m hk ⟨h1, h2⟩ => by
      refine ⟨mset m 27 k 0, ⟨fun i a => by rw [mset_ne a]; exact h1 i a, fun i hi => ?_⟩, ?_⟩
      · by_cases e : i = k
        · subst e; exact mg_e
        · rw [mg_k e]; exact h2 i (by omega)
      · have fk : (nI A ≤ nI k) = False := by rw [leN (by omega) (by omega)]; exact eq_false (by omega)
        show fX10_keep_2 (n + 1) m (nI k) = _
        rw [fX10_keep_2, h1 0 (by omega), hA]
        simp only [fk, if_false, inbN (show k < 10 by omega) (show 10 < 2 ^ 31 by omega), if_true, cN (show k < 2 ^ 31 by omega), bmE, nIs])
    300 0 τ (by omega) (by omega) ⟨fun _ _ => rfl, fun _ h => by omega⟩
  exact ⟨m, h3, h1, h2⟩
set_option maxHeartbeats 1000000 in
theorem weak_both {σ τ : Mem} {A lv : Nat} (c25 : Mem → Int32 → Option Mem) (v1 : Int32) (hA : σ 1 1 = nI A) (hA' : τ 0 1 = nI A) (hA2 : A ≤ 10) (hlv : lv ≤ 1000) (e5 : τ 5 5 = nI lv) (hq : ∀ i, i < A → σ (16 + i) 1 = τ 2 i ∧ σ (16 + i) 5 = τ 27 i ∧ Bd (τ 2 i) 1000) :
    ∃ z, fX2_weakestBelow σ 1 (nI lv) = some z ∧ fX10_keep_39 c25 300 τ v1 (-1) 0 = fX10_keep_123 c25 τ v1 z ∧ (z = -1 ∨ ∃ b sb, b < A ∧ z = nI b ∧ τ 2 b = nI sb ∧ 0 < sb ∧ sb < lv) := by
  unfold fX2_weakestBelow
  obtain ⟨s, h1, h2⟩ := lp_up (S := Int32 × Int32) (fun n s i => (fX2_weakestBelow_7 n σ 1 s.1 s.2 i, fX10_keep_39 c25 n τ v1 s.1 i)) (fun s => (some s.1, fX10_keep_123 c25 τ v1 s.1)) (fun k s => (s.1 = -1 ∧ s.2 = nI lv) ∨ ∃ b sb, b < k ∧ s.1 = nI b ∧ τ 2 b = nI sb ∧ s.2 = nI sb ∧ 0 < sb ∧ sb < lv) A
    (fun n s h => by
      show (fX2_weakestBelow_7 (n + 1) σ 1 s.1 s.2 (nI A), fX10_keep_39 c25 (n + 1) τ v1 s.1 (nI A)) = _
      have fk : (nI A ≤ nI A) = True := eq_true (by rw [leN (by omega) (by omega)]; omega)
      rw [fX2_weakestBelow_7, fX10_keep_39, hA, hA']
      simp only [fk, if_true])
    (fun n k s hk h => by
      obtain ⟨x, y⟩ := s
      dsimp only at h ⊢
      obtain ⟨q1, q2, s, hs, es⟩ := hq k (by omega)
      have fk : (nI A ≤ nI k) = False := by rw [leN (by omega) (by omega)]; exact eq_false (by omega)
      have f1 : (nI s ≤ 0) = (s = 0) := by rw [i0, leN (by omega) (by omega)]; exact propext (by omega)
      have f2 : (nI s = 0) = (s = 0) := by rw [i0, eqN (by omega) (by omega)]
      have f3 : (nI lv ≤ nI s) = (lv ≤ s) := leN (by omega) (by omega)
      have hup : ∀ a b, ((a = -1 ∧ b = nI lv) ∨ ∃ b' sb, b' < k ∧ a = nI b' ∧ τ 2 b' = nI sb ∧ b = nI sb ∧ 0 < sb ∧ sb < lv) → ((a = -1 ∧ b = nI lv) ∨ ∃ b' sb, b' < k + 1 ∧ a = nI b' ∧ τ 2 b' = nI sb ∧ b = nI sb ∧ 0 < sb ∧ sb < lv) := by
        rintro a b (h | ⟨b', sb, h1, h2⟩)
        · exact Or.inl h
        · exact Or.inr ⟨b', sb, by omega, h2⟩
      rw [fX2_weakestBelow_7, fX10_keep_39, hA, hA']
      unfold fX0_isFallen fX10_keep_84 fX10_keep_85
      simp only [fk, if_false, inbN (show k < 10 by omega) (show 10 < 2 ^ 31 by omega), if_true, cN (show k < 2 ^ 31 by omega), rf1, rf3, biE, nIs, q1, q2, es, f1, f2, f3, e5]
      by_cases c1 : s = 0
      · simp only [c1, if_true, z10, if_false]
        exact ⟨(x, y), hup x y h, rfl⟩
      simp only [c1, if_true, if_false]
      by_cases c2 : τ 27 k = 0
      · simp only [c2, if_true, z10, if_false]
        rcases h with ⟨h1, h2⟩ | ⟨b, sb, h1, h2, h3, h4, h5, h6⟩
        · subst h1; subst h2
          have fm : ((-1 : Int32) < 0) = True := eq_true (by decide)
          simp only [f3, fm, if_true]
          by_cases c3 : lv ≤ s
          · simp only [c3, if_true]
            exact ⟨(-1, nI lv), Or.inl ⟨rfl, rfl⟩, rfl⟩
          · simp only [c3, if_false]
            exact ⟨(nI k, nI s), Or.inr ⟨k, s, by omega, rfl, es, rfl, by omega, by omega⟩, rfl⟩
        · subst h2; subst h4
          have fm : (nI b < (0 : Int32)) = False := by rw [i0, ltN (by omega) (by omega)]; exact eq_false (by omega)
          have fb : (nI sb ≤ nI s) = (sb ≤ s) := leN (by omega) (by omega)
          simp only [fm, if_false, inbN (show b < 10 by omega) (show 10 < 2 ^ 31 by omega), if_true, cN (show b < 2 ^ 31 by omega), h3, fb]
          by_cases c3 : lv ≤ s
          · simp only [c3, if_true, show sb ≤ s by omega]
            exact ⟨(nI b, nI sb), Or.inr ⟨b, sb, by omega, rfl, h3, rfl, h5, h6⟩, rfl⟩
          · simp only [c3, if_false]
            by_cases c4 : sb ≤ s
            · simp only [c4, if_true]
              exact ⟨(nI b, nI sb), Or.inr ⟨b, sb, by omega, rfl, h3, rfl, h5, h6⟩, rfl⟩
            · simp only [c4, if_false]
              exact ⟨(nI k, nI s), Or.inr ⟨k, s, by omega, rfl, es, rfl, by omega, by omega⟩, rfl⟩
      · simp only [c2, if_false]
        by_cases c3 : lv ≤ s
        · simp only [c3, if_true]
          exact ⟨(x, y), hup x y h, rfl⟩
        · simp only [c3, if_false]
          exact ⟨(x, y), hup x y h, rfl⟩)
    300 0 (-1, nI lv) (by omega) (by omega) (Or.inl ⟨rfl, rfl⟩)
  refine ⟨s.1, congrArg Prod.fst h2, congrArg Prod.snd h2, ?_⟩
  rcases h1 with ⟨h1, -⟩ | ⟨b, sb, h1, h2, h3, -, h5, h6⟩
  · exact Or.inl h1
  · exact Or.inr ⟨b, sb, h1, h2, h3, h5, h6⟩
set_option maxHeartbeats 1000000 in
theorem keep_loop {Y A P T lv M : Nat} (hlv : lv ≤ 1000) (hM10 : M ≤ 10) : ∀ (n k O Z : Nat) (σ τ : Mem), M - k < n → k ≤ M → Rel Y A P T O Z σ τ → (∀ i, i < A → σ (16 + i) 5 = τ 27 i) → τ 5 4 = nI M → τ 5 5 = nI lv → ∃ σ' τ' O' Z', fX9_keepUp_9 n σ (nI k) = some σ' ∧ fX10_keep_25 n τ (nI k) = some τ' ∧ Rel Y A P T O' Z' σ' τ' := by
  intro n
  induction n with
  | zero => intro k O Z σ τ h; omega
  | succ n ih =>
    intro k O Z σ τ hn hk h hc e4 e5
    have hrel := h
    obtain ⟨hx, ha, hp, hr, hs, ht, hu, hb, ho⟩ := h
    obtain ⟨⟨y1, y2, y3⟩, ⟨a1, a2, a3⟩, ⟨p1, p2, p3, p4⟩, ⟨t1, t2, t3⟩, ⟨o1, o2, o3⟩, ⟨z1, z2, z3⟩⟩ := hx
    rw [fX9_keepUp_9, fX10_keep_25, (hr 4 (by omega)).1, e4, (hr 5 (by omega)).1, e5]
    have f1 : (nI M ≤ nI k) = (M ≤ k) := leN (by omega) (by omega)
    simp only [f1]
    by_cases c1 : M ≤ k
    · rw [if_pos c1, if_pos c1]; exact ⟨σ, τ, O, Z, rfl, rfl, hrel⟩
    rw [if_neg c1, if_neg c1]
    obtain ⟨z, w1, w2, w3⟩ := weak_both (σ := σ) (τ := τ) (lv := lv) (fun σ_ v1_ => fX10_keep_25 n σ_ v1_) (nI k) a1 a2 a3 hlv e5 (fun i hi => by
      obtain ⟨⟨q1, q2, q3, q4⟩, b1, b2, -⟩ := ha i (by omega)
      exact ⟨q2, hc i hi, b2⟩)
    rw [w1, w2, boS]
    unfold fX10_keep_123
    rcases w3 with rfl | ⟨b, sb, hb1, rfl, hb2, hb3, hb4⟩
    · rw [if_pos rfl, if_neg (show ¬ (0 : Int32) ≤ -1 by decide)]
      exact ⟨σ, τ, O, Z, rfl, rfl, hrel⟩
    rw [if_neg (nI_m1 (by omega)), if_pos (show (0 : Int32) ≤ nI b from nI_pos' (by omega))]
    have hrel2 : Rel Y A P T O Z (mset σ (16 + b) 5 1) (mset τ 27 b 1) := hrel.chosen (fun i hi => mset_ne (by omega)) (fun i hi k hk => by
      by_cases e : i = b
      · subst e; exact mg_k hk
      · exact mg_i (by omega)) (fun i hi => mset_ne hi)
    obtain ⟨⟨q1, q2, q3, q4⟩, ⟨kd, hkd, ekd⟩, -⟩ := ha b (by omega)
    obtain ⟨gg1, gg2⟩ := gN_bd kd
    have hs2 : mset τ 27 b 1 2 b = nI sb := by rw [mg_i (by omega)]; exact hb2
    have hk2 : mset τ 27 b 1 1 b = nI kd := by rw [mg_i (by omega)]; exact ekd
    obtain ⟨c, σ', τ', O', Z', -, hC, hM, hR, g1, g2, g3⟩ := work_both hrel2 (up := lv) (w0 := 100000000) hb1 hs2 hk2 hkd (by omega) hlv (by omega)
    obtain ⟨nd, hnd⟩ : ∃ nd, nd = (lv - sb + gN kd - 1) / gN kd := ⟨_, rfl⟩
    have hndg : nd * gN kd ≤ lv - sb + gN kd - 1 := by rw [hnd]; exact Nat.div_mul_le_self _ _
    have hndb : nd ≤ 1100 := by
      have : nd * 4 ≤ nd * gN kd := Nat.mul_le_mul_left nd gg1
      omega
    rw [← hnd, Nat.min_eq_left (by omega)] at hC
    have hg := (gain_eq (σ := mset σ (16 + b) 5 1) (τ := τ) (show b < 10 by omega) (by rw [mg_k (by omega)]; exact q1) ekd hkd).1
    have hup := upTo_eq (σ := mset σ (16 + b) 5 1) (i := 16 + b) (s := sb) (up := lv) (by rw [mg_k (by omega), q2]; exact hb2) hg (by omega) gg2 (by omega) hlv
    rw [← hnd] at hup
    have e15 : mset σ (16 + b) 5 1 15 5 = nI lv := by rw [mg_i (by omega), (hr 5 (by omega)).1]; exact e5
    have e55 : mset τ 27 b 1 5 5 = nI lv := by rw [mg_i (by omega)]; exact e5
    have hM' : fX10_worked (mset τ 27 b 1) (nI b) (nI lv) 100000000 = some (nI c, τ') := hM
    simp only [inbN (show b < 10 by omega) (show 10 < 2 ^ 31 by omega), if_true, cN (show b < 2 ^ 31 by omega), rf3, bmE, e15, e55, hup, boS, hC, hM', nIs]
    refine ih (k + 1) O' Z' σ' τ' (by omega) (by omega) hR (fun i hi => ?_) ?_ ?_
    · rw [g2 i (by omega), g3 27 (by omega) (by omega) (by omega) (by omega) (by omega) (by omega)]
      by_cases e : i = b
      · subst e; rw [mg_e, mg_e]
      · rw [mg_i (by omega), mg_k e]; exact hc i hi
    · rw [g3 5 (by omega) (by omega) (by omega) (by omega) (by omega) (by omega), mg_i (by omega)]; exact e4
    · rw [g3 5 (by omega) (by omega) (by omega) (by omega) (by omega) (by omega), mg_i (by omega)]; exact e5
theorem keep_both {Y A P T O Z : Nat} {σ τ : Mem} (h : Rel Y A P T O Z σ τ) : ∃ σ' τ' O' Z', fX9_keepUp σ = some σ' ∧ fX10_keep τ = some τ' ∧ Rel Y A P T O' Z' σ' τ' := by
  have hrel := h
  obtain ⟨hx, ha, hp, hr, hs, ht, hu, hb, ho⟩ := h
  obtain ⟨⟨y1, y2, y3⟩, ⟨a1, a2, a3⟩, -⟩ := hx
  obtain ⟨σ1, g1, g2, g3, g4⟩ := forget_eq a1 a3
  obtain ⟨τ1, k1, k2, k3⟩ := keep2_eq a2 a3
  obtain ⟨M, hM, eM⟩ := (hr 4 (by omega)).2
  obtain ⟨lv, hlv, elv⟩ := (hr 5 (by omega)).2
  obtain ⟨σ', τ', O', Z', r1, r2, r3⟩ := keep_loop (Y := Y) (A := A) (P := P) (T := T) (lv := lv) (M := M) hlv hM 300 0 O Z σ1 τ1 (by have : M ≤ 10 := hM; omega) (by omega) (hrel.chosen g2 g4 k2) (fun i hi => by rw [g3 i hi, k3 i hi]) (by rw [k2 5 (by omega)]; exact eM) (by rw [k2 5 (by omega)]; exact elv)
  refine ⟨σ', τ', O', Z', ?_, ?_, r3⟩
  · unfold fX9_keepUp; rw [g1, boS]; exact r1
  · rw [k1]; exact r2
