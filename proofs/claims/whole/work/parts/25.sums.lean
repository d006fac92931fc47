theorem lp_sum {β : Type} (F : Nat → Int32 → Int32 → β) (K : Int32 → β) (g : Nat → Int32) (N : Nat) (hx : ∀ n a, F (n + 1) a (nI N) = K a) (hs : ∀ n k a, k < N → F (n + 1) a (nI k) = F n (a + g k) (nI (k + 1))) (n : Nat) (hn : N < n) : F n 0 0 = K (smI g N) := by
  obtain ⟨a, h1, h2⟩ := lp_up (S := Int32) F K (fun k a => a = smI g k) N (fun n a _ => hx n a) (fun n k a hk e => ⟨a + g k, by rw [e, smI], hs n k a hk⟩) n 0 0 (by omega) (by omega) rfl
  rw [← h1]; exact h2
theorem add0 (x : Int32) : x + 0 = x := Int32.add_zero x
set_option maxHeartbeats 1000000 in
theorem fallen_eq {σ : Mem} {b B A : Nat} (hB : ∀ k, rfX (rfX b 0) k = B + k) (hA : σ b 1 = nI A) (hA2 : A ≤ 10) : fX2_fallen σ b = some (smI (fun i => if σ (B + i) 1 = 0 then 1 else 0) A) := by
  unfold fX2_fallen
  refine lp_sum (fun n a i => fX2_fallen_4 n σ b a i) (fun a => some a) (fun i => if σ (B + i) 1 = 0 then 1 else 0) A ?_ ?_ 300 (by omega)
  · intro n a
    show fX2_fallen_4 (n + 1) σ b a (nI A) = _
    rw [fX2_fallen_4, hA, if_pos (by rw [leN (by omega) (by omega)]; omega)]
  · intro n k a hk
    show fX2_fallen_4 (n + 1) σ b a (nI k) = fX2_fallen_4 n σ b _ (nI (k + 1))
    rw [fX2_fallen_4, hA, if_neg (by rw [leN (by omega) (by omega)]; omega), if_pos (inbN (by omega) (by omega)), cN (by omega), hB, nIs]
    unfold fX0_isFallen
    by_cases c : σ (B + k) 1 = 0
    · simp only [c, if_true, z10, if_false, biE]
    · simp only [c, if_true, if_false, biE]
set_option maxHeartbeats 1000000 in
theorem houses_eq {σ : Mem} {b B A : Nat} (hB : ∀ k, rfX (rfX b 0) k = B + k) (hA : σ b 1 = nI A) (hA2 : A ≤ 10) : fX2_houses σ b = some (smI (fun i => σ (B + i) 2) A) := by
  unfold fX2_houses
  refine lp_sum (fun n a i => fX2_houses_4 n σ b a i) (fun a => some a) (fun i => σ (B + i) 2) A ?_ ?_ 300 (by omega)
  · intro n a
    show fX2_houses_4 (n + 1) σ b a (nI A) = _
    rw [fX2_houses_4, hA, if_pos (by rw [leN (by omega) (by omega)]; omega)]
  · intro n k a hk
    show fX2_houses_4 (n + 1) σ b a (nI k) = fX2_houses_4 n σ b _ (nI (k + 1))
    rw [fX2_houses_4, hA, if_neg (by rw [leN (by omega) (by omega)]; omega), if_pos (inbN (by omega) (by omega)), cN (by omega), hB, nIs, biE]
set_option maxHeartbeats 1000000 in
theorem blocked_eq {σ : Mem} {b B A : Nat} (hB : ∀ k, rfX (rfX b 0) k = B + k) (hA : σ b 1 = nI A) (hA2 : A ≤ 10) : fX2_blocked σ b = some (smI (fun i => σ (B + i) 3) A + smI (fun i => if σ (B + i) 1 = 0 then 1 else 0) A) := by
  unfold fX2_blocked
  rw [lp_sum (fun n a i => fX2_blocked_4 n σ b a i) (fun a => fX2_blocked_30 σ b a) (fun i => σ (B + i) 3) A ?_ ?_ 300 (by omega)]
  · unfold fX2_blocked_30; rw [fallen_eq hB hA hA2, boS]
  · intro n a
    show fX2_blocked_4 (n + 1) σ b a (nI A) = _
    rw [fX2_blocked_4, hA, if_pos (by rw [leN (by omega) (by omega)]; omega)]
  · intro n k a hk
    show fX2_blocked_4 (n + 1) σ b a (nI k) = fX2_blocked_4 n σ b _ (nI (k + 1))
    rw [fX2_blocked_4, hA, if_neg (by rw [leN (by omega) (by omega)]; omega), if_pos (inbN (by omega) (by omega)), cN (by omega), hB, nIs, biE]
set_option maxHeartbeats 1000000 in
theorem there_eq {σ : Mem} : fX9_sheetsThere σ = some (smI (fun s => if σ (36 + s) 1 = 0 then 1 else 0) 4) := by
  unfold fX9_sheetsThere
  refine lp_sum (fun n a i => fX9_sheetsThere_4 n σ a i) (fun a => some a) (fun s => if σ (36 + s) 1 = 0 then 1 else 0) 4 ?_ ?_ 300 (by omega)
  · intro n a
    show fX9_sheetsThere_4 (n + 1) σ a (nI 4) = _
    rw [fX9_sheetsThere_4, if_pos (by decide)]
  · intro n k a hk
    show fX9_sheetsThere_4 (n + 1) σ a (nI k) = fX9_sheetsThere_4 n σ _ (nI (k + 1))
    rw [fX9_sheetsThere_4, if_neg (by rw [i4, leN (by omega) (by omega)]; omega), if_pos (inbN (by omega) (by omega)), cN (by omega), rf5, nIs]
    by_cases c : σ (36 + k) 1 = 0
    · simp only [c, if_true, biE]
    · simp only [c, if_false, biE]
set_option maxHeartbeats 1000000 in
theorem coins_eq {σ : Mem} {P : Nat} (hP : σ 9 1 = nI P) (hP2 : P ≤ 20) : fX3_allCoins σ = some (smI (fun p => σ (44 + p) 6) P) := by
  unfold fX3_allCoins
  refine lp_sum (fun n a i => fX3_allCoins_4 n σ a i) (fun a => some a) (fun p => σ (44 + p) 6) P ?_ ?_ 300 (by omega)
  · intro n a
    show fX3_allCoins_4 (n + 1) σ a (nI P) = _
    rw [fX3_allCoins_4, hP, if_pos (by rw [leN (by omega) (by omega)]; omega)]
  · intro n k a hk
    show fX3_allCoins_4 (n + 1) σ a (nI k) = fX3_allCoins_4 n σ _ (nI (k + 1))
    rw [fX3_allCoins_4, hP, if_neg (by rw [leN (by omega) (by omega)]; omega), if_pos (inbN (by omega) (by omega)), cN (by omega), rf10, nIs, biE]
set_option maxHeartbeats 1000000 in
theorem coinsFor_eq {σ : Mem} {P : Nat} (v y : Int32) (hP : σ 9 1 = nI P) (hP2 : P ≤ 20) : fX3_coinsFor σ v y = some (smI (fun p => if fX5_canPay σ (44 + p) v y = 0 then 0 else σ (44 + p) 6) P) := by
  unfold fX3_coinsFor
  refine lp_sum (fun n a i => fX3_coinsFor_5 n σ v y a i) (fun a => some a) (fun p => if fX5_canPay σ (44 + p) v y = 0 then 0 else σ (44 + p) 6) P ?_ ?_ 300 (by omega)
  · intro n a
    show fX3_coinsFor_5 (n + 1) σ v y a (nI P) = _
    rw [fX3_coinsFor_5, hP, if_pos (by rw [leN (by omega) (by omega)]; omega)]
  · intro n k a hk
    show fX3_coinsFor_5 (n + 1) σ v y a (nI k) = fX3_coinsFor_5 n σ v y _ (nI (k + 1))
    rw [fX3_coinsFor_5, hP, if_neg (by rw [leN (by omega) (by omega)]; omega)]
    simp only [inbN (show k < 20 by omega) (by omega), cN (show k < 2 ^ 31 by omega), if_true, rf10, nIs]
    by_cases c : fX5_canPay σ (44 + k) v y = 0
    · simp only [c, if_true, biE]
    · simp only [c, if_false, biE]
set_option maxHeartbeats 1000000 in
theorem mfallen_eq {τ : Mem} {A : Nat} (hA : τ 0 1 = nI A) (hA2 : A ≤ 10) : fX10_count_55 300 τ 0 0 = some (smI (fun i => if τ 2 i = 0 then 1 else 0) A) := by
  refine lp_sum (fun n a i => fX10_count_55 n τ a i) (fun a => some a) (fun i => if τ 2 i = 0 then 1 else 0) A ?_ ?_ 300 (by omega)
  · intro n a
    show fX10_count_55 (n + 1) τ a (nI A) = _
    rw [fX10_count_55, hA, if_pos (by rw [leN (by omega) (by omega)]; omega)]
  · intro n k a hk
    show fX10_count_55 (n + 1) τ a (nI k) = fX10_count_55 n τ _ (nI (k + 1))
    rw [fX10_count_55, hA, if_neg (by rw [leN (by omega) (by omega)]; omega), if_pos (inbN (by omega) (by omega)), cN (by omega), nIs]
    by_cases c : τ 2 k = 0
    · simp only [c, if_true, biE]
    · simp only [c, if_false, biE]
set_option maxHeartbeats 1000000 in
theorem mhouses_eq {τ : Mem} {A : Nat} (hA : τ 0 1 = nI A) (hA2 : A ≤ 10) : fX10_count_110 300 τ 0 0 = some (smI (fun i => τ 3 i) A) := by
  refine lp_sum (fun n a i => fX10_count_110 n τ a i) (fun a => some a) (fun i => τ 3 i) A ?_ ?_ 300 (by omega)
  · intro n a
    show fX10_count_110 (n + 1) τ a (nI A) = _
    rw [fX10_count_110, hA, if_pos (by rw [leN (by omega) (by omega)]; omega)]
  · intro n k a hk
    show fX10_count_110 (n + 1) τ a (nI k) = fX10_count_110 n τ _ (nI (k + 1))
    rw [fX10_count_110, hA, if_neg (by rw [leN (by omega) (by omega)]; omega), if_pos (inbN (by omega) (by omega)), cN (by omega), nIs, biE]
set_option maxHeartbeats 1000000 in
theorem mthere_eq {τ : Mem} : fX10_count_137 300 τ 0 0 = some (smI (fun s => if τ 6 s = 0 then 0 else 1) 4) := by
  refine lp_sum (fun n a i => fX10_count_137 n τ a i) (fun a => some a) (fun s => if τ 6 s = 0 then 0 else 1) 4 ?_ ?_ 300 (by omega)
  · intro n a
    show fX10_count_137 (n + 1) τ a (nI 4) = _
    rw [fX10_count_137, if_pos (by decide)]
  · intro n k a hk
    show fX10_count_137 (n + 1) τ a (nI k) = fX10_count_137 n τ _ (nI (k + 1))
    rw [fX10_count_137, if_neg (by rw [i4, leN (by omega) (by omega)]; omega), if_pos (inbN (by omega) (by omega)), cN (by omega), nIs]
    by_cases c : τ 6 k = 0
    · simp only [c, if_true, biE]
    · simp only [c, if_false, biE]
set_option maxHeartbeats 1000000 in
theorem mcoins_eq {τ : Mem} {P : Nat} (hP : τ 0 13 = nI P) (hP2 : P ≤ 20) : fX10_sum τ = some (smI (fun p => τ 16 p) P) := by
  unfold fX10_sum
  refine lp_sum (fun n a i => fX10_sum_4 n τ a i) (fun a => some a) (fun p => τ 16 p) P ?_ ?_ 300 (by omega)
  · intro n a
    show fX10_sum_4 (n + 1) τ a (nI P) = _
    rw [fX10_sum_4, hP, if_pos (by rw [leN (by omega) (by omega)]; omega)]
  · intro n k a hk
    show fX10_sum_4 (n + 1) τ a (nI k) = fX10_sum_4 n τ _ (nI (k + 1))
    rw [fX10_sum_4, hP, if_neg (by rw [leN (by omega) (by omega)]; omega), if_pos (inbN (by omega) (by omega)), cN (by omega), nIs, biE]
set_option maxHeartbeats 1000000 in
theorem mspent_eq {τ : Mem} {P i : Nat} (hi : i < 10) (hP : τ 0 13 = nI P) (hP2 : P ≤ 20) : fX10_spentAt τ (2 + nI i) = some (smI (fun p => τ 19 (12 * p + (2 + i))) P) := by
  unfold fX10_spentAt
  refine lp_sum (fun n a j => fX10_spentAt_4 n τ (2 + nI i) a j) (fun a => some a) (fun p => τ 19 (12 * p + (2 + i))) P ?_ ?_ 300 (by omega)
  · intro n a
    show fX10_spentAt_4 (n + 1) τ (2 + nI i) a (nI P) = _
    rw [fX10_spentAt_4, hP, if_pos (by rw [leN (by omega) (by omega)]; omega)]
  · intro n k a hk
    show fX10_spentAt_4 (n + 1) τ (2 + nI i) a (nI k) = fX10_spentAt_4 n τ (2 + nI i) _ (nI (k + 1))
    have e5 : (12 : Int32) * nI k + (2 + nI i) = nI (12 * k + (2 + i)) := by rw [i12, i2, pk_mul, nI_add, nI_add]
    rw [fX10_spentAt_4, hP, if_neg (by rw [leN (by omega) (by omega)]; omega), e5, if_pos (inbN (by omega) (by omega)), cN (by omega), nIs, biE]
theorem sv_iff (v e : Int32) : (v - 2 = e - 4) = (v = 2 + e - 4) := by
  apply propext
  constructor
  · intro h
    have h2 : v - 2 + 2 = e - 4 + 2 := by rw [h]
    rw [Int32.sub_add_cancel] at h2
    rw [h2, Int32.sub_eq_add_neg, Int32.sub_eq_add_neg]; ac_rfl
  · intro h
    rw [h, Int32.sub_eq_add_neg, Int32.sub_eq_add_neg, Int32.sub_eq_add_neg]
    have : (2 : Int32) + e + -4 + -2 = e + -4 + (2 + -2) := by ac_rfl
    rw [this]
    simp
set_option maxHeartbeats 1000000 in
theorem serves_eq {σ τ : Mem} {p k : Nat} (v : Int32) (hp : p < 20) (h1 : σ (44 + p) 1 = τ 11 p) (h2 : τ 11 p = nI k) (hk : k ≤ 13) : fX10_serves τ (nI p) v = some (fX5_serves σ (44 + p) v) := by
  unfold fX10_serves fX5_serves
  rw [if_pos (inbN hp (by omega)), cN (by omega), biE, h1, h2]
  unfold fX10_serves_20 fX10_serves_30 fX10_serves_40
  have f0 : (nI k = (0 : Int32)) = (k = 0) := eqN (b := 0) (by omega) (by omega)
  have f1 : (nI k = (1 : Int32)) = (k = 1) := eqN (b := 1) (by omega) (by omega)
  have f2 : (nI k = (2 : Int32)) = (k = 2) := eqN (b := 2) (by omega) (by omega)
  have f3 : (nI k = (3 : Int32)) = (k = 3) := eqN (b := 3) (by omega) (by omega)
  have f4 : (nI k < (4 : Int32)) = (k < 4) := ltN (b := 4) (by omega) (by omega)
  have g2 : (v < 2) = ¬ (2 ≤ v) := propext ⟨fun h h2 => Int32.lt_irrefl (Int32.lt_of_lt_of_le h h2), fun h => Int32.not_le.mp h⟩
  simp only [f0, f1, f2, f3, f4, sv_iff, g2]
  by_cases c0 : k = 0
  · simp only [c0, if_true]
  by_cases c1 : k = 1
  · subst c1
    by_cases d : 2 ≤ v
    · simp [d]
    · simp [d]
  by_cases c2 : k = 2
  · subst c2
    by_cases d : v = 0
    · simp [d]
    · simp [d]
  by_cases c3 : k = 3
  · subst c3
    by_cases d : v = 1
    · simp [d]
    · simp [d]
  have c4 : ¬ k < 4 := by omega
  by_cases d : v = 2 + nI k - 4
  · simp only [c0, c1, c2, c3, c4, if_true, if_false, if_pos d]
  · simp only [c0, c1, c2, c3, c4, if_true, if_false, if_neg d]
set_option maxHeartbeats 1000000 in
theorem isOpen_eq {σ τ : Mem} {p Y : Nat} (hp : p < 20) (hy : τ 0 0 = nI Y) (h2 : σ (44 + p) 2 = τ 12 p) (h3 : σ (44 + p) 3 = τ 13 p) : fX10_isOpen τ (nI p) = some (fX5_isOpen σ (44 + p) (nI Y)) := by
  unfold fX10_isOpen fX5_isOpen fX10_isIn
  simp only [inbN hp (show 20 < 2 ^ 31 by omega), cN (show p < 2 ^ 31 by omega), if_true, hy, h2, h3]
/-- what a purse has for an end -/
def pay1 (σ : Mem) (v y : Int32) (p : Nat) : Int32 := if fX5_canPay σ (44 + p) v y = 0 then 0 else σ (44 + p) 6
theorem pay1_eq {σ : Mem} {v y : Int32} {p B : Nat} (hB : B < 2 ^ 31) (hc : Bd (σ (44 + p) 6) B) : pay1 σ v y p = if fX5_isOpen σ (44 + p) y = 0 then 0 else if fX5_serves σ (44 + p) v = 0 then 0 else σ (44 + p) 6 := by
  unfold pay1 fX5_canPay
  by_cases c : σ (44 + p) 6 ≤ 0
  · obtain ⟨k, hk, e⟩ := hc
    rw [e, i0, leN (by omega) (by omega)] at c
    have e0 : σ (44 + p) 6 = 0 := by rw [e, show k = 0 by omega]; rfl
    simp [e0]
  · by_cases c1 : fX5_isOpen σ (44 + p) y = 0
    · simp [c, c1]
    · by_cases c2 : fX5_serves σ (44 + p) v = 0
      · simp [c, c1, c2]
      · simp [c, c1, c2]
set_option maxHeartbeats 1000000 in
theorem mfunds_eq {Y A P T O Z : Nat} {σ τ : Mem} (v : Int32) (hx : Rix Y A P T O Z σ τ) (hu : Rpu Y A σ τ) : fX10_fundsOf τ v = some (smI (pay1 σ v (nI Y)) P) := by
  obtain ⟨⟨y1, y2, y3⟩, ⟨a1, a2, a3⟩, ⟨p1, p2, p3, p4⟩, -⟩ := hx
  unfold fX10_fundsOf
  refine lp_sum (fun n a i => fX10_fundsOf_4 n τ v a i) (fun a => some a) (pay1 σ v (nI Y)) P ?_ ?_ 300 (by omega)
  · intro n a
    show fX10_fundsOf_4 (n + 1) τ v a (nI P) = _
    rw [fX10_fundsOf_4, p2, if_pos (by rw [leN (by omega) (by omega)]; omega)]
  · intro n k a hk
    show fX10_fundsOf_4 (n + 1) τ v a (nI k) = fX10_fundsOf_4 n τ v _ (nI (k + 1))
    obtain ⟨⟨q1, q2, q3, q4, q5, q6, q7, q8⟩, q9, ⟨e, he, b1⟩, b2, b3, b4, b5, b6⟩ := hu k (by omega)
    have hn20 := np20_le (τ 0 13)
    rw [pay1_eq (B := 400000 * Y + 10000 * (Y + 21)) (by omega) (by rw [q6]; exact b6.w (by split <;> omega))]
    rw [fX10_fundsOf_4, p2, if_neg (by rw [leN (by omega) (by omega)]; omega), isOpen_eq (by omega) y2 q2 q3, boS, serves_eq v (by omega) q1 b1 (by omega)]
    simp only [inbN (show k < 20 by omega) (by omega), cN (show k < 2 ^ 31 by omega), if_true, nIs, boS, biE, q6]
    by_cases c1 : fX5_isOpen σ (44 + k) (nI Y) = 0
    · simp only [c1, if_true]
    · by_cases c2 : fX5_serves σ (44 + k) v = 0
      · simp only [c1, c2, if_true, if_false]
      · simp only [c1, c2, if_false]
set_option maxHeartbeats 1000000 in
theorem op_funds {σ τ : Mem} (v1 : Int32) (h : RelE σ τ) : Op1 (fX9_funds σ v1) (fX10_funds τ v1) := by
  have h0 := h
  obtain ⟨Y, A, P, T, O, Z, hx, ha, hp, hr, hs, ht, hu, hb, ho⟩ := h
  have hxx := hx
  obtain ⟨⟨y1, y2, y3⟩, ⟨a1, a2, a3⟩, ⟨p1, p2, p3, p4⟩, ⟨t1, t2, t3⟩, ⟨o1, o2, o3⟩, ⟨z1, z2, z3⟩⟩ := hxx
  unfold fX9_funds fX10_funds
  rcases end_or v1 a1 a2 a3 with ⟨e3, e4⟩ | ⟨k, hk, rfl, e3, e4⟩
  · simp only [e3, e4, if_true]; exact Op1.same
  simp only [e3, e4, z10, if_false]
  rw [y1, coinsFor_eq (nI k) (nI Y) p1 p4, mfunds_eq (nI k) hx hu, boS, boS]
  exact Op1.same
set_option maxHeartbeats 1000000 in
theorem op_sum {σ τ : Mem} (h : RelE σ τ) : Op1 (fX9_sum σ) (fX10_sum τ) := by
  have h0 := h
  obtain ⟨Y, A, P, T, O, Z, hx, ha, hp, hr, hs, ht, hu, hb, ho⟩ := h
  have hxx := hx
  obtain ⟨⟨y1, y2, y3⟩, ⟨a1, a2, a3⟩, ⟨p1, p2, p3, p4⟩, ⟨t1, t2, t3⟩, ⟨o1, o2, o3⟩, ⟨z1, z2, z3⟩⟩ := hxx
  unfold fX9_sum
  rw [coins_eq p1 p4, mcoins_eq p2 p4, boS, smI_congr (g := fun p => τ 16 p) P (fun p hp => (hu p (by omega)).1.2.2.2.2.2.1)]
  exact Op1.same
set_option maxHeartbeats 1000000 in
theorem op_count {σ τ : Mem} (v1 : Int32) (h : RelE σ τ) : Op1 (fX9_count σ v1) (fX10_count τ v1) := by
  have h0 := h
  obtain ⟨Y, A, P, T, O, Z, hx, ha, hp, hr, hs, ht, hu, hb, ho⟩ := h
  have hxx := hx
  obtain ⟨⟨y1, y2, y3⟩, ⟨a1, a2, a3⟩, ⟨p1, p2, p3, p4⟩, ⟨t1, t2, t3⟩, ⟨o1, o2, o3⟩, ⟨z1, z2, z3⟩⟩ := hxx
  unfold fX9_count fX10_count
  rw [fallen_eq (b := 1) (B := 16) (fun k => by rw [rf1, rf3]) a1 a3, houses_eq (b := 1) (B := 16) (fun k => by rw [rf1, rf3]) a1 a3, there_eq, mfallen_eq a2 a3, mhouses_eq a2 a3, mthere_eq, boS, boS, boS, a1, a2, p1, p2, z1, z2, y1, y2, t1, t2]
  rw [smI_congr (f := fun i => if σ (16 + i) 1 = 0 then 1 else 0) (g := fun i => if τ 2 i = 0 then 1 else 0) A (fun i hi => by rw [(ha i (by omega)).1.2.1]), smI_congr (f := fun i => σ (16 + i) 2) (g := fun i => τ 3 i) A (fun i hi => (ha i (by omega)).1.2.2.1), smI_congr (f := fun s => if σ (36 + s) 1 = 0 then 1 else 0) (g := fun s => if τ 6 s = 0 then 0 else 1) 4 (fun s hs4 => by
    rcases (hs s hs4).1 with ⟨e1, e2⟩ | ⟨e1, e2⟩
    · simp [e1, e2]
    · simp [e1, e2])]
  by_cases c0 : v1 = 0
  · simp only [c0, if_true]; exact Op1.same
  by_cases c1 : v1 = 1
  · simp only [c0, if_false, if_pos c1]; exact Op1.same
  by_cases c2 : v1 = 2
  · simp only [c0, c1, if_false, if_pos c2]; exact Op1.same
  by_cases c3 : v1 = 3
  · simp only [c0, c1, c2, if_false, if_pos c3]; exact Op1.same
  by_cases c4 : v1 = 4
  · simp only [c0, c1, c2, c3, if_false, if_pos c4]; exact Op1.same
  by_cases c5 : v1 = 5
  · simp only [c0, c1, c2, c3, c4, if_false, if_pos c5]; exact Op1.same
  by_cases c6 : v1 = 6
  · simp only [c0, c1, c2, c3, c4, c5, if_false, if_pos c6]; exact Op1.same
  by_cases c7 : v1 = 7
  · simp only [c0, c1, c2, c3, c4, c5, c6, if_false, if_pos c7]; exact Op1.same
  · simp only [c0, c1, c2, c3, c4, c5, c6, c7, if_false]; exact Op1.same
