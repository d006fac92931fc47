theorem b8 (x : Int32) : (x &&& 255).toInt8 = x.toInt8 := by
  apply Int8.toBitVec_inj.mp
  apply BitVec.eq_of_getLsbD_eq
  intro i hi
  have h255 : (255 : Int32).toBitVec.getLsbD i = true := by
    have : ∀ i, i < 8 → (255 : Int32).toBitVec.getLsbD i = true := by decide
    exact this i hi
  have h8 : ∀ i, i < 8 → (255#8).getLsbD i = true := by decide
  simp [Int32.toBitVec_toInt8, BitVec.getLsbD_setWidth, h255]
  intro _; exact h8 i hi
theorem and255 (x : Int32) : ∃ b, b < 256 ∧ x &&& 255 = nI b := pk_andE x 8 (by decide)
/-- one byte more, both sides -/
def Fed (T : Nat) (σ0 τ0 σ τ : Mem) : Prop := σ 6 1 = nI T ∧ τ 0 12 = nI T ∧ Rtp T σ τ ∧ (∀ i, i ≠ 6 → i ≠ 7 → σ i = σ0 i) ∧ (∀ i, i ≠ 0 → i ≠ 10 → τ i = τ0 i) ∧ ∀ k, k ≠ 12 → τ 0 k = τ0 0 k
theorem add_step {n T : Nat} {σ : Mem} {v x : Int32} (h : σ 6 1 = nI T) (hT : T < 48) (hx : ¬ x < 0) : fX8_addNumber_3 (n + 1) σ v x = fX8_addNumber_3 n (mset (mset σ 7 T ((v >>> (x &&& 31)).toInt8.toInt32)) 6 1 (nI (T + 1))) v (x + (-8)) := by
  rw [fX8_addNumber_3, if_neg hx, h, if_neg (by rw [i48, leN (by omega) (by omega)]; omega), if_pos (inbN hT (by omega)), cN (by omega), bmE, bmE, mg_i (by omega), h, nIs]
theorem four_step {n T : Nat} {τ : Mem} {v x : Int32} (h : τ 0 12 = nI T) (hT : T < 48) (hx : ¬ x < 0) : fX10_four_3 (n + 1) τ v x = fX10_four_3 n (mset (mset τ 10 T ((v >>> (x &&& 31)) &&& 255)) 0 12 (nI (T + 1))) v (x + (-8)) := by
  rw [fX10_four_3, if_neg hx, h, if_pos (inbN hT (by omega)), cN (by omega), bmE, bmE, mg_i (by omega), h, nIs]
theorem fed_step {T : Nat} {σ0 τ0 σ τ : Mem} (z : Int32) (h : Fed T σ0 τ0 σ τ) : Fed (T + 1) σ0 τ0 (mset (mset σ 7 T (z.toInt8.toInt32)) 6 1 (nI (T + 1))) (mset (mset τ 10 T (z &&& 255)) 0 12 (nI (T + 1))) := by
  obtain ⟨h1, h2, h3, h4, h5, h6⟩ := h
  refine ⟨mg_e, mg_e, fun j hj => ?_, fun i a b => by rw [mset_ne a, mset_ne b, h4 i a b], fun i a b => by rw [mset_ne a, mset_ne b, h5 i a b], fun k hk => by rw [mg_k hk, mg_i (by omega), h6 k hk]⟩
  rw [mg_i (show (7 : Nat) ≠ 6 by omega), mg_i (show (10 : Nat) ≠ 0 by omega)]
  by_cases e : j = T
  · subst e; rw [mg_e, mg_e, b8]
    exact ⟨rfl, and255 z⟩
  · rw [mg_k e, mg_k e]; exact h3 j (by omega)
theorem fed_num {T : Nat} {σ0 τ0 σ τ : Mem} (v : Int32) (h : Fed T σ0 τ0 σ τ) (hT : T + 4 ≤ 48) : ∃ σ' τ', fX8_addNumber σ v = some σ' ∧ fX10_four τ v = some τ' ∧ Fed (T + 4) σ0 τ0 σ' τ' := by
  have k1 := fed_step (v >>> ((24 : Int32) &&& 31)) h
  have k2 := fed_step (v >>> ((16 : Int32) &&& 31)) k1
  have k3 := fed_step (v >>> ((8 : Int32) &&& 31)) k2
  have k4 := fed_step (v >>> ((0 : Int32) &&& 31)) k3
  refine ⟨_, _, ?_, ?_, k4⟩
  · unfold fX8_addNumber
    rw [add_step (n := 299) h.1 (by omega) (by decide), show (24 : Int32) + (-8) = 16 by decide, add_step (n := 298) k1.1 (by omega) (by decide), show (16 : Int32) + (-8) = 8 by decide, add_step (n := 297) k2.1 (by omega) (by decide), show (8 : Int32) + (-8) = 0 by decide, add_step (n := 296) k3.1 (by omega) (by decide), show (0 : Int32) + (-8) = -8 by decide, fX8_addNumber_3, if_pos (by decide)]
  · unfold fX10_four
    rw [four_step (n := 299) h.2.1 (by omega) (by decide), show (24 : Int32) + (-8) = 16 by decide, four_step (n := 298) k1.2.1 (by omega) (by decide), show (16 : Int32) + (-8) = 8 by decide, four_step (n := 297) k2.2.1 (by omega) (by decide), show (8 : Int32) + (-8) = 0 by decide, four_step (n := 296) k3.2.1 (by omega) (by decide), show (0 : Int32) + (-8) = -8 by decide, fX10_four_3, if_pos (by decide)]
set_option maxHeartbeats 1000000 in
theorem op_feed {σ τ : Mem} (v1 v2 v3 : Int32) (h : RelE σ τ) : Op2 (fX9_feed σ v1 v2 v3) (fX10_feed τ v1 v2 v3) := by
  have h0 := h
  obtain ⟨Y, A, P, T, O, Z, hx, ha, hp, hr, hs, ht, hu, hb, ho⟩ := h
  have hxx := hx
  obtain ⟨⟨y1, y2, y3⟩, ⟨a1, a2, a3⟩, ⟨p1, p2, p3, p4⟩, ⟨t1, t2, t3⟩, ⟨o1, o2, o3⟩, ⟨z1, z2, z3⟩⟩ := hxx
  unfold fX9_feed fX10_feed
  have f1 : (nI T ≤ (36 : Int32)) = (T ≤ 36) := leN (b := 36) (by omega) (by omega)
  have f2 : (nI T + 12 ≤ (48 : Int32)) = (T + 12 ≤ 48) := by rw [i12, nI_add]; exact leN (b := 48) (by omega) (by omega)
  simp only [t1, t2, f1, f2]
  by_cases c : T ≤ 36
  · rw [if_pos c, if_pos (show T + 12 ≤ 48 by omega)]
    have k0 : Fed T σ τ σ τ := ⟨t1, t2, ht, fun _ _ _ => rfl, fun _ _ _ => rfl, fun _ _ => rfl⟩
    obtain ⟨s1, u1, e1, e2, k1⟩ := fed_num v1 k0 (by omega)
    obtain ⟨s2, u2, e3, e4, k2⟩ := fed_num v2 k1 (by omega)
    obtain ⟨s3, u3, e5, e6, k3⟩ := fed_num v3 k2 (by omega)
    rw [e1, e2, boS, boS, e3, e4, boS, boS, e5, e6, boS, boS]
    obtain ⟨g1, g2, g3, hX, hM, hM0⟩ := k3
    rw [g1, g2]
    refine ⟨nI (T + 4 + 4 + 4), s3, u3, rfl, rfl, ?_⟩
    refine ⟨Y, A, P, T+4+4+4, O, Z, ?_, ?_, ?_, ?_, ?_, ?_, ?_, ?_, ?_⟩
    · refine ⟨⟨by rw [hX 0 (by omega) (by omega)]; exact y1, by rw [hM0 _ (by omega)]; exact y2, y3⟩, ⟨by rw [hX 1 (by omega) (by omega)]; exact a1, by rw [hM0 _ (by omega)]; exact a2, a3⟩, ⟨by rw [hX 9 (by omega) (by omega)]; exact p1, by rw [hM0 _ (by omega)]; exact p2, p3, p4⟩, ⟨g1, g2, by omega⟩, ⟨by rw [hX 11 (by omega) (by omega)]; exact o1, by rw [hM0 _ (by omega)]; exact o2, o3⟩, ⟨by rw [hX 11 (by omega) (by omega)]; exact z1, by rw [hM0 _ (by omega)]; exact z2, z3⟩⟩
    · exact ha.cg (fun i hi k hk => by rw [hX (16 + i) (by omega) (by omega)]) (hM 1 (by omega) (by omega)) (hM 2 (by omega) (by omega)) (hM 3 (by omega) (by omega)) (hM 4 (by omega) (by omega))
    · exact hp.cg (fun i hi => by rw [hX (16 + i) (by omega) (by omega)]) (hM 19 (by omega) (by omega))
    · exact hr.cg (hX 15 (by omega) (by omega)) (hM 5 (by omega) (by omega))
    · exact hs.cg (fun i hi => hX (36 + i) (by omega) (by omega)) (fun i hi => hX (40 + i) (by omega) (by omega)) (hM 6 (by omega) (by omega)) (hM 7 (by omega) (by omega)) (hM 8 (by omega) (by omega)) (hM 9 (by omega) (by omega))
    · exact g3
    · exact hu.cg (fun i hi => hX (44 + i) (by omega) (by omega)) (fun i hi => hX (64 + i) (by omega) (by omega)) (fun k h1 h2 => hM k (by omega) (by omega)) (hM0 13 (by omega))
    · exact hb.cg (hX 12 (by omega) (by omega)) (hM 20 (by omega) (by omega))
    · exact ho.cg (hX 14 (by omega) (by omega)) (hM 21 (by omega) (by omega))
  · rw [if_neg c, if_neg (show ¬ T + 12 ≤ 48 by omega)]; exact Op2.same h0
