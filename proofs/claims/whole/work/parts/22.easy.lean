theorem has_or {σ τ : Mem} {A : Nat} (v : Int32) (h1 : σ 1 1 = nI A) (h2 : τ 0 1 = nI A) (hA : A ≤ 10) : (fX2_has σ 1 v = 0 ∧ fX10_isArch τ v = 0) ∨ ∃ k, k < A ∧ v = nI k ∧ fX2_has σ 1 v = 1 ∧ fX10_isArch τ v = 1 := by
  unfold fX2_has fX10_isArch
  rw [isW, isI, h1, h2]
  rcases rng1 v A (by omega) with ⟨h, -⟩ | ⟨k, hk, e, h⟩
  · left; rw [if_pos h]; exact ⟨rfl, rfl⟩
  · right; rw [if_neg h]; exact ⟨k, hk, e, rfl, rfl⟩
theorem hasP_or {σ τ : Mem} {P : Nat} (v : Int32) (h1 : σ 9 1 = nI P) (h2 : τ 0 13 = nI P) (hP : P ≤ 20) : (fX3_has σ v = 0 ∧ fX10_isPurse τ v = 0) ∨ ∃ k, k < P ∧ v = nI k ∧ fX3_has σ v = 1 ∧ fX10_isPurse τ v = 1 := by
  unfold fX3_has fX10_isPurse
  rw [isW, isI, h1, h2]
  rcases rng1 v P (by omega) with ⟨h, -⟩ | ⟨k, hk, e, h⟩
  · left; rw [if_pos h]; exact ⟨rfl, rfl⟩
  · right; rw [if_neg h]; exact ⟨k, hk, e, rfl, rfl⟩
/-- a value of a fixed range, both sides -/
theorem win_or (σ τ : Mem) (v : Int32) (a b : Nat) {lo hi : Int32} (h1 : lo = nI a) (h2 : hi = nI b) (hb : b < 2 ^ 31) (hab : a ≤ b) : (fX9_isWithin σ v lo hi = 0 ∧ fX10_isIn τ v lo hi = 0) ∨ ∃ k, a ≤ k ∧ k ≤ b ∧ v = nI k ∧ fX9_isWithin σ v lo hi = 1 ∧ fX10_isIn τ v lo hi = 1 := by
  subst h1; subst h2
  rw [isW, isI]
  rcases rng v a b hb hab with ⟨h, -⟩ | ⟨k, h1, h2, rfl⟩
  · left; rw [if_pos h]; exact ⟨rfl, rfl⟩
  · right
    have h : ¬ (nI k < nI a ∨ nI b < nI k) := by rw [ltN (by omega) (by omega), ltN (by omega) (by omega)]; omega
    rw [if_neg h]; exact ⟨k, h1, h2, rfl, rfl, rfl⟩
theorem z10 : ((1 : Int32) = 0) = False := by decide
theorem Rpu.up {Y A A' : Nat} {σ τ : Mem} (h : Rpu Y A σ τ) (hA : A ≤ A') : Rpu Y A' σ τ := by
  intro p hp
  obtain ⟨h1, h2, h3, h4⟩ := h p hp
  exact ⟨h1, h2, h3.w (by omega), h4⟩
set_option maxHeartbeats 1000000 in
theorem op_arch {σ τ : Mem} (v : Int32) (h : RelE σ τ) : Op2 (fX9_arch σ v) (fX10_arch τ v) := by
  have h0 := h
  obtain ⟨Y, A, P, T, O, Z, hx, ha, hp, hr, hs, ht, hu, hb, ho⟩ := h
  have hxx := hx
  obtain ⟨⟨y1, y2, y3⟩, ⟨a1, a2, a3⟩, ⟨p1, p2, p3, p4⟩, ⟨t1, t2, t3⟩, ⟨o1, o2, o3⟩, ⟨z1, z2, z3⟩⟩ := hxx
  unfold fX9_arch fX10_arch
  rcases win_or σ τ v 0 3 (lo := 0) (hi := 3) rfl rfl (by omega) (by omega) with ⟨e1, e2⟩ | ⟨k, -, hk, rfl, e1, e2⟩
  · simp only [e1, e2, if_true]; exact Op2.same h0
  · have f1 : (nI A < (10 : Int32)) = (A < 10) := ltN (b := 10) (by omega) (by omega)
    have f2 : (nI A = (10 : Int32)) = (A = 10) := eqN (b := 10) (by omega) (by omega)
    simp only [e1, e2, z10, if_false, a1, a2, f1, f2]
    by_cases hA : A = 10
    · rw [if_neg (show ¬ A < 10 by omega), if_pos hA]; exact Op2.same h0
    · rw [if_pos (show A < 10 by omega), if_neg hA]
      unfold fX2_build
      simp only [a1, a2, rf1, rf3, cN (show A < 2 ^ 31 by omega), inbN (show A < 10 by omega) (by omega), if_true, bm, bo, mg_i (show (1 : Nat) ≠ 16 + A by omega), mg_i (show (0 : Nat) ≠ 1 by omega), mg_i (show (0 : Nat) ≠ 2 by omega), mg_e, nIs, nI_pred]
      refine ⟨nI A, _, _, rfl, rfl, ?_⟩
      have hX : ∀ i, i ≠ 16 + A → i ≠ 1 → mset (mset (mset σ (16 + A) 0 (nI k)) (16 + A) 1 1000) 1 1 (nI (A + 1)) i = σ i := fun i h1 h2 => by rw [mset_ne h2, mset_ne h1, mset_ne h1]
      have hM : ∀ i, i ≠ 0 → i ≠ 1 → i ≠ 2 → mset (mset (mset τ 1 A (nI k)) 2 A 1000) 0 1 (nI (A + 1)) i = τ i := fun i h0 h1 h2 => by rw [mset_ne h0, mset_ne h2, mset_ne h1]
      have hM0 : ∀ i, i ≠ 1 → mset (mset (mset τ 1 A (nI k)) 2 A 1000) 0 1 (nI (A + 1)) 0 i = τ 0 i := fun i h0 => by rw [mg_k h0, mg_i (by omega), mg_i (by omega)]
      refine ⟨Y, A+1, P, T, O, Z, ?_, ?_, ?_, ?_, ?_, ?_, ?_, ?_, ?_⟩
      · refine ⟨⟨?_, ?_, y3⟩, ⟨mg_e, mg_e, by omega⟩, ⟨?_, ?_, p3, p4⟩, ⟨?_, ?_, t3⟩, ⟨?_, ?_, o3⟩, ⟨?_, ?_, z3⟩⟩
        · rw [hX 0 (by omega) (by omega), y1]
        · rw [hM0 _ (by omega), y2]
        · rw [hX 9 (by omega) (by omega), p1]
        · rw [hM0 _ (by omega), p2]
        · rw [hX 6 (by omega) (by omega), t1]
        · rw [hM0 _ (by omega), t2]
        · rw [hX 11 (by omega) (by omega), o1]
        · rw [hM0 _ (by omega), o2]
        · rw [hX 11 (by omega) (by omega), z1]
        · rw [hM0 _ (by omega), z2]
      · intro i hi
        obtain ⟨⟨q1, q2, q3, q4⟩, b1, b2, b3, b4, b5⟩ := ha i hi
        rw [hM 3 (by omega) (by omega) (by omega), hM 4 (by omega) (by omega) (by omega)]
        by_cases e : i = A
        · subst e
          have e2 : 16 + i ≠ 1 := by omega
          simp only [mg_i e2, mg_i (show (1 : Nat) ≠ 0 by omega), mg_i (show (1 : Nat) ≠ 2 by omega), mg_i (show (2 : Nat) ≠ 0 by omega), mg_e, mg_k (show (0 : Nat) ≠ 1 by omega), mg_k (show (2 : Nat) ≠ 1 by omega), mg_k (show (2 : Nat) ≠ 0 by omega), mg_k (show (3 : Nat) ≠ 1 by omega), mg_k (show (3 : Nat) ≠ 0 by omega)]
          exact ⟨⟨trivial, trivial, q3, q4⟩, ⟨k, hk, rfl⟩, ⟨1000, by omega, rfl⟩, b3, b4, fun h => absurd h (by decide)⟩
        · rw [hX (16 + i) (by omega) (by omega)]
          simp only [mg_i (show (1 : Nat) ≠ 0 by omega), mg_i (show (1 : Nat) ≠ 2 by omega), mg_i (show (2 : Nat) ≠ 0 by omega), mg_i (show (2 : Nat) ≠ 1 by omega), mg_k e]
          exact ⟨⟨q1, q2, q3, q4⟩, b1, b2, b3, b4, b5⟩
      · exact hp.cg (fun i hi => by
          by_cases e : i = A
          · subst e; rw [mg_i (by omega), mg_k (by omega), mg_k (by omega)]
          · rw [hX (16 + i) (by omega) (by omega)]) (hM 19 (by omega) (by omega) (by omega))
      · exact hr.cg (hX 15 (by omega) (by omega)) (hM 5 (by omega) (by omega) (by omega))
      · exact hs.cg (fun i hi => hX (36 + i) (by omega) (by omega)) (fun i hi => hX (40 + i) (by omega) (by omega)) (hM 6 (by omega) (by omega) (by omega)) (hM 7 (by omega) (by omega) (by omega)) (hM 8 (by omega) (by omega) (by omega)) (hM 9 (by omega) (by omega) (by omega))
      · exact ht.cg (hX 7 (by omega) (by omega)) (hM 10 (by omega) (by omega) (by omega))
      · exact (hu.up (by omega)).cg (fun i hi => hX (44 + i) (by omega) (by omega)) (fun i hi => hX (64 + i) (by omega) (by omega)) (fun k h1 h2 => hM k (by omega) (by omega) (by omega)) (hM0 13 (by omega))
      · exact hb.cg (hX 12 (by omega) (by omega)) (hM 20 (by omega) (by omega) (by omega))
      · exact ho.cg (hX 14 (by omega) (by omega)) (hM 21 (by omega) (by omega) (by omega))
theorem bd_z {x : Int32} {n : Nat} (h : Bd x n) (hn : n < 2 ^ 31) : 0 ≤ x := by
  obtain ⟨k, h1, rfl⟩ := h
  exact nI_pos' (by omega)
set_option maxHeartbeats 1000000 in
theorem op_set {σ τ : Mem} (v1 v2 v3 : Int32) (h : RelE σ τ) : Op2 (fX9_set σ v1 v2 v3) (fX10_set τ v1 v2 v3) := by
  have h0 := h
  obtain ⟨Y, A, P, T, O, Z, hx, ha, hp, hr, hs, ht, hu, hb, ho⟩ := h
  have hxx := hx
  obtain ⟨⟨y1, y2, y3⟩, ⟨a1, a2, a3⟩, ⟨p1, p2, p3, p4⟩, ⟨t1, t2, t3⟩, ⟨o1, o2, o3⟩, ⟨z1, z2, z3⟩⟩ := hxx
  unfold fX9_set fX10_set
  rcases has_or v1 a1 a2 a3 with ⟨e1, e2⟩ | ⟨a, hA, rfl, e1, e2⟩
  · simp only [e1, e2, if_true]; exact Op2.same h0
  simp only [e1, e2, z10, if_false]
  rcases win_or σ τ v2 0 1 (lo := 0) (hi := 1) rfl rfl (by omega) (by omega) with ⟨e3, e4⟩ | ⟨w, -, hw, rfl, e3, e4⟩
  · simp only [e3, e4, if_true]; exact Op2.same h0
  simp only [e3, e4, z10, if_false]
  obtain ⟨⟨q1, q2, q3, q4⟩, b1, b2, b3, b4, b5⟩ := ha a (by omega)
  have ca := cN (show a < 2 ^ 31 by omega)
  have ia := inbN (show a < 10 by omega) (by omega)
  have hf : (fX0_isFallen σ (16 + a) = 0) = (¬ τ 2 a = 0) := by
    unfold fX0_isFallen; rw [q2]
    by_cases h : τ 2 a = 0 <;> simp [h]
  rcases (show w = 0 ∨ w = 1 by omega) with rfl | rfl
  · have f1 : (nI 0 = (0 : Int32)) = True := by decide
    simp only [f1, if_true]
    unfold fX9_set_31 fX10_set_28
    rcases win_or σ τ v3 0 4 (lo := 0) (hi := 4) rfl rfl (by omega) (by omega) with ⟨e5, e6⟩ | ⟨k, -, hk, rfl, e5, e6⟩
    · simp only [e5, e6, if_true]; exact Op2.same h0
    simp only [e5, e6, z10, if_false, ia, if_true, ca, rf3, hf]
    by_cases hz : τ 2 a = 0
    · rw [if_neg (by simp [hz]), if_pos hz]; exact Op2.same h0
    rw [if_pos hz, if_neg hz]
    simp only [f1, if_true]
    unfold fX9_set_79 fX10_set_68
    simp only [f1, if_true, ia, ca, bm, q3]
    refine ⟨τ 3 a, _, _, rfl, rfl, ?_⟩
    have hX : ∀ i, i ≠ 16 + a → mset σ (16 + a) 2 (nI k) i = σ i := fun i h1 => mset_ne h1
    have hM : ∀ i, i ≠ 3 → mset τ 3 a (nI k) i = τ i := fun i h1 => mset_ne h1
    refine ⟨Y, A, P, T, O, Z, ?_, ?_, ?_, ?_, ?_, ?_, ?_, ?_, ?_⟩
    · exact hx.cg (by rw [hX 0 (by omega)]) (by rw [hM 0 (by omega)]) (by rw [hX 1 (by omega)]) (by rw [hM 0 (by omega)]) (by rw [hX 9 (by omega)]) (by rw [hM 0 (by omega)]) (by rw [hX 6 (by omega)]) (by rw [hM 0 (by omega)]) (by rw [hX 11 (by omega)]) (by rw [hM 0 (by omega)]) (by rw [hX 11 (by omega)]) (by rw [hM 0 (by omega)])
    · intro i hi
      rw [hM 1 (by omega), hM 2 (by omega), hM 4 (by omega)]
      by_cases e : i = a
      · subst e
        rw [mg_k (show (0 : Nat) ≠ 2 by omega), mg_k (show (1 : Nat) ≠ 2 by omega), mg_k (show (3 : Nat) ≠ 2 by omega), mg_e, mg_e]
        exact ⟨⟨q1, q2, rfl, q4⟩, b1, b2, ⟨k, hk, rfl⟩, b4, fun h => absurd h hz⟩
      · rw [hX (16 + i) (by omega), mg_k e]; exact ha i hi
    · exact hp.cg (fun i hi => by
        by_cases e : i = a
        · subst e; rw [mg_k (by omega)]
        · rw [hX (16 + i) (by omega)]) (hM 19 (by omega))
    · exact hr.cg (hX 15 (by omega)) (hM 5 (by omega))
    · exact hs.cg (fun i hi => hX (36 + i) (by omega)) (fun i hi => hX (40 + i) (by omega)) (hM 6 (by omega)) (hM 7 (by omega)) (hM 8 (by omega)) (hM 9 (by omega))
    · exact ht.cg (hX 7 (by omega)) (hM 10 (by omega))
    · exact hu.cg (fun i hi => hX (44 + i) (by omega)) (fun i hi => hX (64 + i) (by omega)) (fun k h1 h2 => hM k (by omega)) (by rw [hM 0 (by omega)])
    · exact hb.cg (hX 12 (by omega)) (hM 20 (by omega))
    · exact ho.cg (hX 14 (by omega)) (hM 21 (by omega))
  · have f1 : (nI 1 = (0 : Int32)) = False := by decide
    simp only [f1, if_false]
    unfold fX9_set_31 fX10_set_28
    rcases win_or σ τ v3 0 1 (lo := 0) (hi := 1) rfl rfl (by omega) (by omega) with ⟨e5, e6⟩ | ⟨k, -, hk, rfl, e5, e6⟩
    · simp only [e5, e6, if_true]; exact Op2.same h0
    simp only [e5, e6, z10, if_false, ia, if_true, ca, rf3, hf]
    by_cases hz : τ 2 a = 0
    · rw [if_neg (by simp [hz]), if_pos hz]; exact Op2.same h0
    rw [if_pos hz, if_neg hz]
    simp only [f1, if_false]
    unfold fX9_set_79 fX10_set_68
    simp only [f1, if_false, if_true, ia, ca, bm, q4]
    refine ⟨τ 4 a, _, _, rfl, rfl, ?_⟩
    have hX : ∀ i, i ≠ 16 + a → mset σ (16 + a) 3 (nI k) i = σ i := fun i h1 => mset_ne h1
    have hM : ∀ i, i ≠ 4 → mset τ 4 a (nI k) i = τ i := fun i h1 => mset_ne h1
    refine ⟨Y, A, P, T, O, Z, ?_, ?_, ?_, ?_, ?_, ?_, ?_, ?_, ?_⟩
    · exact hx.cg (by rw [hX 0 (by omega)]) (by rw [hM 0 (by omega)]) (by rw [hX 1 (by omega)]) (by rw [hM 0 (by omega)]) (by rw [hX 9 (by omega)]) (by rw [hM 0 (by omega)]) (by rw [hX 6 (by omega)]) (by rw [hM 0 (by omega)]) (by rw [hX 11 (by omega)]) (by rw [hM 0 (by omega)]) (by rw [hX 11 (by omega)]) (by rw [hM 0 (by omega)])
    · intro i hi
      rw [hM 1 (by omega), hM 2 (by omega), hM 3 (by omega)]
      by_cases e : i = a
      · subst e
        rw [mg_k (show (0 : Nat) ≠ 3 by omega), mg_k (show (1 : Nat) ≠ 3 by omega), mg_k (show (2 : Nat) ≠ 3 by omega), mg_e, mg_e]
        exact ⟨⟨q1, q2, q3, rfl⟩, b1, b2, b3, ⟨k, hk, rfl⟩, fun h => absurd h hz⟩
      · rw [hX (16 + i) (by omega), mg_k e]; exact ha i hi
    · exact hp.cg (fun i hi => by
        by_cases e : i = a
        · subst e; rw [mg_k (by omega)]
        · rw [hX (16 + i) (by omega)]) (hM 19 (by omega))
    · exact hr.cg (hX 15 (by omega)) (hM 5 (by omega))
    · exact hs.cg (fun i hi => hX (36 + i) (by omega)) (fun i hi => hX (40 + i) (by omega)) (hM 6 (by omega)) (hM 7 (by omega)) (hM 8 (by omega)) (hM 9 (by omega))
    · exact ht.cg (hX 7 (by omega)) (hM 10 (by omega))
    · exact hu.cg (fun i hi => hX (44 + i) (by omega)) (fun i hi => hX (64 + i) (by omega)) (fun k h1 h2 => hM k (by omega)) (by rw [hM 0 (by omega)])
    · exact hb.cg (hX 12 (by omega)) (hM 20 (by omega))
    · exact ho.cg (hX 14 (by omega)) (hM 21 (by omega))
set_option maxHeartbeats 1000000 in
theorem op_rule {σ τ : Mem} (v1 v2 : Int32) (h : RelE σ τ) : Op2 (fX9_rule σ v1 v2) (fX10_rule τ v1 v2) := by
  have h0 := h
  obtain ⟨Y, A, P, T, O, Z, hx, ha, hp, hr, hs, ht, hu, hb, ho⟩ := h
  have hxx := hx
  obtain ⟨⟨y1, y2, y3⟩, ⟨a1, a2, a3⟩, ⟨p1, p2, p3, p4⟩, ⟨t1, t2, t3⟩, ⟨o1, o2, o3⟩, ⟨z1, z2, z3⟩⟩ := hxx
  unfold fX9_rule fX10_rule
  rcases win_or σ τ v1 0 5 (lo := 0) (hi := 5) rfl rfl (by omega) (by omega) with ⟨e1, e2⟩ | ⟨k, -, hk, rfl, e1, e2⟩
  · simp only [e1, e2, if_true]; exact Op2.same h0
  simp only [e1, e2, z10, if_false]
  have ca := cN (show k < 2 ^ 31 by omega)
  have ia := inbN (show k < 6 by omega) (by omega)
  have f4 : (nI k = (4 : Int32)) = (k = 4) := eqN (b := 4) (by omega) (by omega)
  have f5 : (nI k = (5 : Int32)) = (k = 5) := eqN (b := 5) (by omega) (by omega)
  have q := hr k (by omega)
  have go : ∀ (m : Nat) (hi : Int32), hi = nI m → m ≤ (if k = 5 then 1000 else if k = 4 then 10 else 100) → m < 2 ^ 31 → Op2 (if fX9_isWithin σ v2 0 hi = 0 then some ((-1000000001), σ) else if inb (nI k) 6 = true then bi (σ 15 (nI k).toNatClampNeg) (fun x1 => if inb (nI k) 6 = true then bm (mset σ 15 (nI k).toNatClampNeg v2) (fun m1 => some (x1, m1)) else none) else none) (fX10_rule_34 τ (nI k) v2 v2 0 hi) := by
    intro m hi em hm hm2
    unfold fX10_rule_34
    rcases win_or σ τ v2 0 m (lo := 0) (hi := hi) rfl em hm2 (by omega) with ⟨e3, e4⟩ | ⟨x, -, hx2, rfl, e3, e4⟩
    · simp only [e3, e4, if_true]; exact Op2.same h0
    simp only [e3, e4, z10, if_false, ia, if_true, ca, bi, bm, q.1]
    refine ⟨τ 5 k, _, _, rfl, rfl, ?_⟩
    have hX : ∀ i, i ≠ 15 → mset σ 15 k (nI x) i = σ i := fun i h1 => mset_ne h1
    have hM : ∀ i, i ≠ 5 → mset τ 5 k (nI x) i = τ i := fun i h1 => mset_ne h1
    refine ⟨Y, A, P, T, O, Z, ?_, ?_, ?_, ?_, ?_, ?_, ?_, ?_, ?_⟩
    · exact hx.cg (by rw [hX 0 (by omega)]) (by rw [hM 0 (by omega)]) (by rw [hX 1 (by omega)]) (by rw [hM 0 (by omega)]) (by rw [hX 9 (by omega)]) (by rw [hM 0 (by omega)]) (by rw [hX 6 (by omega)]) (by rw [hM 0 (by omega)]) (by rw [hX 11 (by omega)]) (by rw [hM 0 (by omega)]) (by rw [hX 11 (by omega)]) (by rw [hM 0 (by omega)])
    · exact ha.cg (fun i hi k hk => by rw [hX (16 + i) (by omega)]) (hM 1 (by omega)) (hM 2 (by omega)) (hM 3 (by omega)) (hM 4 (by omega))
    · exact hp.cg (fun i hi => by rw [hX (16 + i) (by omega)]) (hM 19 (by omega))
    · intro j hj
      by_cases e : j = k
      · subst e; rw [mg_e, mg_e]; exact ⟨rfl, x, by omega, rfl⟩
      · rw [mg_k e, mg_k e]; exact hr j hj
    · exact hs.cg (fun i hi => hX (36 + i) (by omega)) (fun i hi => hX (40 + i) (by omega)) (hM 6 (by omega)) (hM 7 (by omega)) (hM 8 (by omega)) (hM 9 (by omega))
    · exact ht.cg (hX 7 (by omega)) (hM 10 (by omega))
    · exact hu.cg (fun i hi => hX (44 + i) (by omega)) (fun i hi => hX (64 + i) (by omega)) (fun k h1 h2 => hM k (by omega)) (by rw [hM 0 (by omega)])
    · exact hb.cg (hX 12 (by omega)) (hM 20 (by omega))
    · exact ho.cg (hX 14 (by omega)) (hM 21 (by omega))
  unfold fX9_mostOfRule
  simp only [f4, f5]
  by_cases c4 : k = 4
  · simp only [c4, if_true]; subst c4; exact go 10 10 rfl (by decide) (by omega)
  · by_cases c5 : k = 5
    · simp only [c4, c5, if_true, if_false]; subst c5; exact go 1000 1000 rfl (by decide) (by omega)
    · simp only [c4, c5, if_false]; exact go 100 100 rfl (by simp [c4, c5]) (by omega)
set_option maxHeartbeats 1000000 in
theorem op_isOf {σ τ : Mem} (v1 v2 : Int32) (h : RelE σ τ) : Op1 (fX9_isOf σ v1 v2) (fX10_isOf τ v1 v2) := by
  have h0 := h
  obtain ⟨Y, A, P, T, O, Z, hx, ha, hp, hr, hs, ht, hu, hb, ho⟩ := h
  have hxx := hx
  obtain ⟨⟨y1, y2, y3⟩, ⟨a1, a2, a3⟩, ⟨p1, p2, p3, p4⟩, ⟨t1, t2, t3⟩, ⟨o1, o2, o3⟩, ⟨z1, z2, z3⟩⟩ := hxx
  unfold fX9_isOf fX10_isOf
  rcases has_or v1 a1 a2 a3 with ⟨e1, e2⟩ | ⟨a, hA, rfl, e1, e2⟩
  · simp only [e1, e2, if_true]; exact Op1.same
  simp only [e1, e2, z10, if_false]
  rcases win_or σ τ v2 0 3 (lo := 0) (hi := 3) rfl rfl (by omega) (by omega) with ⟨e3, e4⟩ | ⟨w, -, hw, rfl, e3, e4⟩
  · simp only [e3, e4, if_true]; exact Op1.same
  simp only [e3, e4, z10, if_false]
  obtain ⟨⟨q1, q2, q3, q4⟩, b1, b2, b3, b4, b5⟩ := ha a (by omega)
  simp only [cN (show a < 2 ^ 31 by omega), inbN (show a < 10 by omega) (by omega), if_true, rf3]
  unfold fX0_isKind
  rw [q1]
  by_cases c1 : nI w = 0
  · simp only [c1, if_true, z10, if_false]; exact Op1.same
  · by_cases c2 : nI w = τ 1 a
    · rw [if_neg c1, if_neg c1, if_pos c2, if_pos c2, if_neg (show ¬ (1 : Int32) = 0 by decide)]; exact Op1.same
    · by_cases c3 : nI w = 2
      · by_cases c4 : τ 1 a = 3
        · rw [if_neg c1, if_neg c1, if_neg c2, if_neg c2, if_pos c3, if_pos c3, if_pos c4, if_pos c4, if_neg (show ¬ (1 : Int32) = 0 by decide)]; exact Op1.same
        · rw [if_neg c1, if_neg c1, if_neg c2, if_neg c2, if_pos c3, if_pos c3, if_neg c4, if_neg c4, if_pos rfl]; exact Op1.same
      · rw [if_neg c1, if_neg c1, if_neg c2, if_neg c2, if_neg c3, if_neg c3, if_pos rfl]; exact Op1.same
set_option maxHeartbeats 1000000 in
theorem op_purse {σ τ : Mem} (v1 v2 : Int32) (h : RelE σ τ) : Op1 (fX9_purse σ v1 v2) (fX10_purse τ v1 v2) := by
  have h0 := h
  obtain ⟨Y, A, P, T, O, Z, hx, ha, hp, hr, hs, ht, hu, hb, ho⟩ := h
  have hxx := hx
  obtain ⟨⟨y1, y2, y3⟩, ⟨a1, a2, a3⟩, ⟨p1, p2, p3, p4⟩, ⟨t1, t2, t3⟩, ⟨o1, o2, o3⟩, ⟨z1, z2, z3⟩⟩ := hxx
  unfold fX9_purse fX10_purse
  rcases hasP_or v1 p1 p2 p4 with ⟨e1, e2⟩ | ⟨p, hP, rfl, e1, e2⟩
  · simp only [e1, e2, if_true]; exact Op1.same
  simp only [e1, e2, z10, if_false]
  obtain ⟨⟨q1, q2, q3, q4, q5, q6, q7, q8⟩, q9, -⟩ := hu p (by omega)
  have ca := cN (show p < 2 ^ 31 by omega)
  have ia := inbN (show p < 20 by omega) (by omega)
  have hop : fX5_isOpen σ (44 + p) (nI Y) = fX10_isIn τ (nI Y) (τ 12 p) (τ 13 p) := by
    unfold fX5_isOpen fX10_isIn; rw [q2, q3]
  unfold fX10_isOpen
  simp only [ca, ia, if_true, rf10, q1, q2, q3, q5, q6, q7, q8, y1, y2, hop, bo]
  rcases rng v2 0 7 (by omega) (by omega) with ⟨h1, h2⟩ | ⟨k, -, hk, rfl⟩
  · have e3 : fX10_isIn τ v2 0 7 = 0 := by rw [isI]; exact if_pos h1
    have n0 : ¬ v2 = 0 := h2 0 (by omega) (by omega)
    have n1 : ¬ v2 = 1 := h2 1 (by omega) (by omega)
    have n2 : ¬ v2 = 2 := h2 2 (by omega) (by omega)
    have n3 : ¬ v2 = 3 := h2 3 (by omega) (by omega)
    have n4 : ¬ v2 = 4 := h2 4 (by omega) (by omega)
    have n5 : ¬ v2 = 5 := h2 5 (by omega) (by omega)
    have n6 : ¬ v2 = 6 := h2 6 (by omega) (by omega)
    have n7 : ¬ v2 = 7 := h2 7 (by omega) (by omega)
    simp only [e3, n0, n1, n2, n3, n4, n5, n6, n7, if_true, if_false]; exact Op1.same
  · have e3 : fX10_isIn τ (nI k) 0 7 = 1 := by
      rw [isI]; exact if_neg (by rw [i0, i7, ltN (by omega) (by omega), ltN (by omega) (by omega)]; omega)
    simp only [e3, z10, if_false]
    have c : k = 0 ∨ k = 1 ∨ k = 2 ∨ k = 3 ∨ k = 4 ∨ k = 5 ∨ k = 6 ∨ k = 7 := by omega
    rcases c with rfl | rfl | rfl | rfl | rfl | rfl | rfl | rfl
    · simp only [show (nI 0 = (0 : Int32)) = True by decide, if_true]; exact Op1.same
    · simp only [show (nI 1 = (0 : Int32)) = False by decide, show (nI 1 = (1 : Int32)) = True by decide, if_true, if_false]; exact Op1.same
    · simp only [show (nI 2 = (0 : Int32)) = False by decide, show (nI 2 = (1 : Int32)) = False by decide, show (nI 2 = (2 : Int32)) = True by decide, if_true, if_false]; exact Op1.same
    · simp only [show (nI 3 = (0 : Int32)) = False by decide, show (nI 3 = (1 : Int32)) = False by decide, show (nI 3 = (2 : Int32)) = False by decide, show (nI 3 = (3 : Int32)) = True by decide, if_true, if_false]; exact Op1.same
    · simp only [show (nI 4 = (0 : Int32)) = False by decide, show (nI 4 = (1 : Int32)) = False by decide, show (nI 4 = (2 : Int32)) = False by decide, show (nI 4 = (3 : Int32)) = False by decide, show (nI 4 = (4 : Int32)) = True by decide, if_true, if_false]; exact Op1.same
    · simp only [show (nI 5 = (0 : Int32)) = False by decide, show (nI 5 = (1 : Int32)) = False by decide, show (nI 5 = (2 : Int32)) = False by decide, show (nI 5 = (3 : Int32)) = False by decide, show (nI 5 = (4 : Int32)) = False by decide, show (nI 5 = (5 : Int32)) = True by decide, if_true, if_false]
      by_cases c : fX10_isIn τ (nI Y) (τ 12 p) (τ 13 p) = 0
      · simp only [c, if_true]; exact Op1.same
      · simp only [c, if_false]; exact Op1.same
    · simp only [show (nI 6 = (0 : Int32)) = False by decide, show (nI 6 = (1 : Int32)) = False by decide, show (nI 6 = (2 : Int32)) = False by decide, show (nI 6 = (3 : Int32)) = False by decide, show (nI 6 = (4 : Int32)) = False by decide, show (nI 6 = (5 : Int32)) = False by decide, show (nI 6 = (6 : Int32)) = True by decide, if_true, if_false]; exact Op1.same
    · simp only [show (nI 7 = (0 : Int32)) = False by decide, show (nI 7 = (1 : Int32)) = False by decide, show (nI 7 = (2 : Int32)) = False by decide, show (nI 7 = (3 : Int32)) = False by decide, show (nI 7 = (4 : Int32)) = False by decide, show (nI 7 = (5 : Int32)) = False by decide, show (nI 7 = (6 : Int32)) = False by decide, show (nI 7 = (7 : Int32)) = True by decide, if_true, if_false]; exact Op1.same
theorem end_or {σ τ : Mem} {A : Nat} (v : Int32) (h1 : σ 1 1 = nI A) (h2 : τ 0 1 = nI A) (hA : A ≤ 10) : (fX9_isEnd σ v = 0 ∧ fX10_isEnd τ v = 0) ∨ ∃ k, k < 2 + A ∧ v = nI k ∧ fX9_isEnd σ v = 1 ∧ fX10_isEnd τ v = 1 := by
  have hM : fX10_isEnd τ v = if v < 0 ∨ nI (A + 1) < v then 0 else 1 := by
    unfold fX10_isEnd; rw [isI, h2, i1, nI_add, Nat.add_comm]
  rw [hM]
  unfold fX9_isEnd fX2_has
  rw [isW, isW, h1]
  rcases rng v 0 (A + 1) (by omega) (by omega) with ⟨h, hn⟩ | ⟨k, -, hk, rfl⟩
  · left
    have h' : v < 0 ∨ nI (A + 1) < v := h
    rw [if_pos h']
    refine ⟨?_, rfl⟩
    have hn1 : v < 0 ∨ (1 : Int32) < v := by
      rcases rng v 0 1 (by omega) (by omega) with ⟨h, -⟩ | ⟨k, -, hk, e⟩
      · exact h
      · exact absurd e (hn k (by omega) (by omega))
    simp only [hn1, if_true]
    by_cases c : v < 2
    · simp only [c, if_true]
    · simp only [c, if_false]
      obtain ⟨k, hk, rfl⟩ := nI_of (x := v) (fun h => c (Int32.lt_of_lt_of_le h (by decide)))
      have hk2 : 2 ≤ k := by
        rw [i2, ltN (by omega) (by omega)] at c; omega
      rw [i2, pk_sub hk2]
      rcases rng1 (nI (k - 2)) A (by omega) with ⟨h3, -⟩ | ⟨j, hj, e, -⟩
      · simp only [h3, if_true]
      · rw [eqN (by omega) (by omega)] at e
        exact absurd rfl (hn k (by omega) (by omega))
  · right
    refine ⟨k, by omega, rfl, ?_, ?_⟩
    · by_cases c : k < 2
      · have g1 : ¬ (nI k < 0 ∨ (1 : Int32) < nI k) := by rw [i0, i1, ltN (by omega) (by omega), ltN (by omega) (by omega)]; omega
        simp only [g1, if_false, z10]
      · have g1 : nI k < 0 ∨ (1 : Int32) < nI k := by rw [i0, i1, ltN (by omega) (by omega), ltN (by omega) (by omega)]; omega
        have g2 : ¬ nI k < 2 := by rw [i2, ltN (by omega) (by omega)]; omega
        have g3 : nI k - 2 = nI (k - 2) := pk_sub (b := 2) (by omega)
        rcases rng1 (nI (k - 2)) A (by omega) with ⟨-, h3⟩ | ⟨j, hj, e, h4⟩
        · exact absurd rfl (h3 (k - 2) (by omega))
        · simp only [g1, g2, g3, h4, if_true, if_false, z10]
    · exact if_neg (by rw [i0, ltN (by omega) (by omega), ltN (by omega) (by omega)]; omega)
set_option maxHeartbeats 1000000 in
theorem op_spent {σ τ : Mem} (v1 v2 : Int32) (h : RelE σ τ) : Op1 (fX9_spent σ v1 v2) (fX10_spent τ v1 v2) := by
  have h0 := h
  obtain ⟨Y, A, P, T, O, Z, hx, ha, hp, hr, hs, ht, hu, hb, ho⟩ := h
  have hxx := hx
  obtain ⟨⟨y1, y2, y3⟩, ⟨a1, a2, a3⟩, ⟨p1, p2, p3, p4⟩, ⟨t1, t2, t3⟩, ⟨o1, o2, o3⟩, ⟨z1, z2, z3⟩⟩ := hxx
  unfold fX9_spent fX10_spent
  rcases hasP_or v1 p1 p2 p4 with ⟨e1, e2⟩ | ⟨p, hP, rfl, e1, e2⟩
  · simp only [e1, e2, if_true]; exact Op1.same
  simp only [e1, e2, z10, if_false]
  rcases end_or v2 a1 a2 a3 with ⟨e3, e4⟩ | ⟨k, hk, rfl, e3, e4⟩
  · simp only [e3, e4, if_true]; exact Op1.same
  have q := (hu p (by omega)).2.1 k (by omega)
  have e5 : (12 : Int32) * nI p + nI k = nI (12 * p + k) := by rw [i12, pk_mul, nI_add]
  simp only [e3, e4, z10, if_false, e5, cN (show p < 2 ^ 31 by omega), cN (show k < 2 ^ 31 by omega), cN (show 12 * p + k < 2 ^ 31 by omega), inbN (show p < 20 by omega) (by omega), inbN (show k < 12 by omega) (by omega), inbN (show 12 * p + k < 240 by omega) (by omega), if_true, rf10, rf_pu (show p < 20 by omega), q]
  exact Op1.same
set_option maxHeartbeats 1000000 in
theorem op_roll {σ τ : Mem} (v1 v2 : Int32) (h : RelE σ τ) : Op1 (fX9_roll σ v1 v2) (fX10_roll τ v1 v2) := by
  have h0 := h
  obtain ⟨Y, A, P, T, O, Z, hx, ha, hp, hr, hs, ht, hu, hb, ho⟩ := h
  have hxx := hx
  obtain ⟨⟨y1, y2, y3⟩, ⟨a1, a2, a3⟩, ⟨p1, p2, p3, p4⟩, ⟨t1, t2, t3⟩, ⟨o1, o2, o3⟩, ⟨z1, z2, z3⟩⟩ := hxx
  unfold fX9_roll fX10_roll
  rcases win_or σ τ v1 0 200 (lo := 0) (hi := 200) rfl rfl (by omega) (by omega) with ⟨e1, e2⟩ | ⟨y, -, hy, rfl, e1, e2⟩
  · simp only [e1, e2, if_true]; exact Op1.same
  simp only [e1, e2, z10, if_false]
  rcases win_or σ τ v2 0 6 (lo := 0) (hi := 6) rfl rfl (by omega) (by omega) with ⟨e3, e4⟩ | ⟨k, -, hk, rfl, e3, e4⟩
  · simp only [e3, e4, if_true]; exact Op1.same
  unfold fX6_read
  have e5 : nI y * (7 : Int32) + nI k = nI (7 * y + k) := by rw [i7, pk_mul, nI_add, Nat.mul_comm]
  have e6 : (7 : Int32) * nI y + nI k = nI (7 * y + k) := by rw [i7, pk_mul, nI_add]
  simp only [e3, e4, z10, if_false, e5, e6, cN (show 7 * y + k < 2 ^ 31 by omega), inbN (show 7 * y + k < 1407 by omega) (by omega), if_true, ho (7 * y + k) (by omega), bo]
  exact Op1.same
theorem remN {a : Nat} (ha : a < 2 ^ 31) : nI a - nI a / 200 * 200 = nI (a % 200) := pk_rem (d := 200) ha (by omega) (by omega)
set_option maxHeartbeats 1000000 in
theorem op_row {σ τ : Mem} (v1 v2 : Int32) (h : RelE σ τ) : Op1 (fX9_row σ v1 v2) (fX10_row τ v1 v2) := by
  have h0 := h
  obtain ⟨Y, A, P, T, O, Z, hx, ha, hp, hr, hs, ht, hu, hb, ho⟩ := h
  have hxx := hx
  obtain ⟨⟨y1, y2, y3⟩, ⟨a1, a2, a3⟩, ⟨p1, p2, p3, p4⟩, ⟨t1, t2, t3⟩, ⟨o1, o2, o3⟩, ⟨z1, z2, z3⟩⟩ := hxx
  unfold fX9_row fX10_row
  by_cases c : v1 < 0
  · simp only [c, if_true]; exact Op1.same
  obtain ⟨i, hi, rfl⟩ := nI_of c
  simp only [c, if_false]
  rcases win_or σ τ v2 0 3 (lo := 0) (hi := 3) rfl rfl (by omega) (by omega) with ⟨e3, e4⟩ | ⟨k, -, hk, rfl, e3, e4⟩
  · simp only [e3, e4, if_true]; exact Op1.same
  simp only [e3, e4, z10, if_false, z1, z2, ltN hi (show Z < 2 ^ 31 by omega), leN (show Z < 2 ^ 31 by omega) hi]
  by_cases c2 : i < Z
  · rw [if_pos c2, if_neg (by omega)]
    unfold fX1_read
    have hm : (O + i) % 200 < 200 := Nat.mod_lt _ (by omega)
    have e5 : nI ((O + i) % 200) * (4 : Int32) + nI k = nI (4 * ((O + i) % 200) + k) := by rw [i4, pk_mul, nI_add, Nat.mul_comm]
    have e6 : (4 : Int32) * nI ((O + i) % 200) + nI k = nI (4 * ((O + i) % 200) + k) := by rw [i4, pk_mul, nI_add]
    simp only [o1, o2, nI_add, remN (show O + i < 2 ^ 31 by omega), e5, e6, cN (show 4 * ((O + i) % 200) + k < 2 ^ 31 by omega), inbN (show 4 * ((O + i) % 200) + k < 800 by omega) (by omega), if_true, bo, hb (4 * ((O + i) % 200) + k) (by omega)]
    exact Op1.same
  · rw [if_neg c2, if_pos (by omega)]; exact Op1.same
