def wearV (kd hs : Int32) : Int32 := if kd = 1 then (10 + 4 * hs) / 2 else if kd = 2 then (10 + 4 * hs) + 15 else if kd = 3 then 2 * ((10 + 4 * hs) + 15) else 10 + 4 * hs
def lossV (kd st hs fl bl : Int32) : Int32 := if st = 0 then 0 else wearV kd hs + (if kd = 1 then (fl * (10 + bl)) / 10 / 2 else (fl * (10 + bl)) / 10)
def newS (st l : Int32) : Int32 := if 0 < st - l then st - l else 0
theorem loss_eq (σ : Mem) (i : Nat) (fl bl : Int32) : fX0_loss σ i fl bl = lossV (σ i 0) (σ i 1) (σ i 2) fl bl := by
  unfold fX0_loss fX0_isFallen fX0_wear fX0_scour lossV wearV
  simp only [biE]
  by_cases c : σ i 1 = 0
  · simp only [c, if_true, z10, if_false]
  · simp only [c, if_false, if_true]
theorem weaken_eq (m : Mem) (i : Nat) (l : Int32) : ∃ m', fX0_weaken m i l = some m' ∧ (∀ j, j ≠ i → m' j = m j) ∧ m' i 1 = newS (m i 1) l ∧ m' i 2 = (if newS (m i 1) l = 0 then 0 else m i 2) ∧ m' i 3 = (if newS (m i 1) l = 0 then 0 else m i 3) ∧ ∀ k, k ≠ 1 → k ≠ 2 → k ≠ 3 → m' i k = m i k := by
  unfold fX0_weaken fX0_isFallen
  have e : (if 0 < m i 1 - l then m i 1 - l else 0) = newS (m i 1) l := rfl
  simp only [bmE, e, mg_e]
  by_cases c : newS (m i 1) l = 0
  · simp only [c, if_true, z10, if_false]
    refine ⟨_, rfl, fun j hj => by rw [mset_ne hj, mset_ne hj, mset_ne hj], ?_, ?_, ?_, fun k h1 h2 h3 => ?_⟩
    · rw [mg_k (by omega), mg_k (by omega), mg_e]
    · rw [mg_k (by omega), mg_e]
    · rw [mg_e]
    · rw [mg_k h3, mg_k h2, mg_k h1]
  · simp only [c, if_true, if_false]
    refine ⟨_, rfl, fun j hj => by rw [mset_ne hj], mg_e, ?_, ?_, fun k h1 h2 h3 => ?_⟩
    · rw [mg_k (by omega)]
    · rw [mg_k (by omega)]
    · rw [mg_k h1]
set_option maxHeartbeats 1000000 in
theorem suffer_eq {σ : Mem} {b B A : Nat} (fl : Int32) (hB : ∀ k, rfX (rfX b 0) k = B + k) (hb : b < B) (hA : σ b 1 = nI A) (hA2 : A ≤ 10) : ∃ bl, bl = smI (fun i => σ (B + i) 3) A + smI (fun i => if σ (B + i) 1 = 0 then 1 else 0) A ∧ ∃ σ', fX2_sufferYear σ b fl = some σ' ∧ (∀ i, ¬ (B ≤ i ∧ i < B + A) → σ' i = σ i) ∧ ∀ i, i < A → (σ' (B + i) 1 = newS (σ (B + i) 1) (lossV (σ (B + i) 0) (σ (B + i) 1) (σ (B + i) 2) fl bl) ∧ σ' (B + i) 2 = (if newS (σ (B + i) 1) (lossV (σ (B + i) 0) (σ (B + i) 1) (σ (B + i) 2) fl bl) = 0 then 0 else σ (B + i) 2) ∧ σ' (B + i) 3 = (if newS (σ (B + i) 1) (lossV (σ (B + i) 0) (σ (B + i) 1) (σ (B + i) 2) fl bl) = 0 then 0 else σ (B + i) 3) ∧ ∀ k, k ≠ 1 → k ≠ 2 → k ≠ 3 → σ' (B + i) k = σ (B + i) k) := by
  refine ⟨_, rfl, ?_⟩
  unfold fX2_sufferYear
  rw [blocked_eq hB hA hA2, boS]
  generalize smI (fun i => σ (B + i) 3) A + smI (fun i => if σ (B + i) 1 = 0 then 1 else 0) A = bl
  obtain ⟨m, ⟨h1, h2⟩, h3⟩ := lp_up (S := Mem) (fun n m i => fX2_sufferYear_7 n m b fl bl i) (fun m => some m) (fun k m => (∀ i, ¬ (B ≤ i ∧ i < B + k) → m i = σ i) ∧ ∀ i, i < k → (m (B + i) 1 = newS (σ (B + i) 1) (lossV (σ (B + i) 0) (σ (B + i) 1) (σ (B + i) 2) fl bl) ∧ m (B + i) 2 = (if newS (σ (B + i) 1) (lossV (σ (B + i) 0) (σ (B + i) 1) (σ (B + i) 2) fl bl) = 0 then 0 else σ (B + i) 2) ∧ m (B + i) 3 = (if newS (σ (B + i) 1) (lossV (σ (B + i) 0) (σ (B + i) 1) (σ (B + i) 2) fl bl) = 0 then 0 else σ (B + i) 3) ∧ ∀ k, k ≠ 1 → k ≠ 2 → k ≠ 3 → m (B + i) k = σ (B + i) k)) A
    (fun n m ⟨h1, h2⟩ => by
      show fX2_sufferYear_7 (n + 1) m b fl bl (nI A) = some m
      rw [fX2_sufferYear_7, h1 b (by omega), hA, if_pos (by rw [leN (by omega) (by omega)]; omega)])
    (fun n k m hk ⟨h1, h2⟩ => by
      obtain ⟨m', g1, g2, g3, g4, g5, g6⟩ := weaken_eq m (B + k) (fX0_loss m (B + k) fl bl)
      refine ⟨m', ⟨fun i hi => by rw [g2 i (by omega)]; exact h1 i (by omega), fun i hi => ?_⟩, ?_⟩
      · by_cases e : i = k
        · subst e
          have e0 : m (B + i) = σ (B + i) := h1 (B + i) (by omega)
          rw [loss_eq, e0] at g3 g4 g5
          rw [e0] at g6
          exact ⟨g3, g4, g5, g6⟩
        · rw [g2 (B + i) (by omega)]; exact h2 i (by omega)
      · show fX2_sufferYear_7 (n + 1) m b fl bl (nI k) = _
        rw [fX2_sufferYear_7, h1 b (by omega), hA, if_neg (by rw [leN (by omega) (by omega)]; omega)]
        simp only [inbN (show k < 10 by omega) (show 10 < 2 ^ 31 by omega), if_true, cN (show k < 2 ^ 31 by omega), hB, g1, boS, nIs])
    300 0 σ (by omega) (by omega) ⟨fun _ _ => rfl, fun _ h => by omega⟩
  exact ⟨m, h3, h1, h2⟩
set_option maxHeartbeats 1000000 in
theorem asItIs_eq {τ : Mem} {A : Nat} (hA : τ 0 1 = nI A) (hA2 : A ≤ 10) : ∃ τ', fX10_asItIs τ = some τ' ∧ (∀ i, i ≠ 22 → i ≠ 23 → i ≠ 24 → τ' i = τ i) ∧ ∀ i, i < A → τ' 22 i = τ 2 i ∧ τ' 23 i = τ 3 i ∧ τ' 24 i = τ 4 i := by
  unfold fX10_asItIs
  obtain ⟨m, ⟨h1, h2⟩, h3⟩ := lp_up (S := Mem) (fun n m i => fX10_asItIs_2 n m i) (fun m => some m) (fun k m => (∀ i, i ≠ 22 → i ≠ 23 → i ≠ 24 → m i = τ i) ∧ ∀ i, i < k → m 22 i = τ 2 i ∧ m 23 i = τ 3 i ∧ m 24 i = τ 4 i) A
    (fun n m ⟨h1, h2⟩ => by
      show fX10_asItIs_2 (n + 1) m (nI A) = some m
      rw [fX10_asItIs_2, h1 0 (by omega) (by omega) (by omega), hA, if_pos (by rw [leN (by omega) (by omega)]; omega)])
    (fun n k m hk ⟨h1, h2⟩ => by
      refine ⟨mset (mset (mset m 22 k (m 2 k)) 23 k (m 3 k)) 24 k (m 4 k), ⟨fun i a b c => by rw [mset_ne c, mset_ne b, mset_ne a]; exact h1 i a b c, fun i hi => ?_⟩, ?_⟩
      · rw [mg_i (show (22 : Nat) ≠ 24 by omega), mg_i (show (22 : Nat) ≠ 23 by omega), mg_i (show (23 : Nat) ≠ 24 by omega)]
        by_cases e : i = k
        · subst e
          rw [mg_e, mg_e, mg_e, h1 2 (by omega) (by omega) (by omega), h1 3 (by omega) (by omega) (by omega), h1 4 (by omega) (by omega) (by omega)]; exact ⟨rfl, rfl, rfl⟩
        · rw [mg_k e, mg_k e, mg_k e, mg_i (show (23 : Nat) ≠ 22 by omega), mg_i (show (24 : Nat) ≠ 23 by omega), mg_i (show (24 : Nat) ≠ 22 by omega)]; exact h2 i (by omega)
      · show fX10_asItIs_2 (n + 1) m (nI k) = _
        rw [fX10_asItIs_2, h1 0 (by omega) (by omega) (by omega), hA, if_neg (by rw [leN (by omega) (by omega)]; omega)]
        simp only [inbN (show k < 10 by omega) (show 10 < 2 ^ 31 by omega), if_true, cN (show k < 2 ^ 31 by omega), bmE, nIs, mg_i (show (3 : Nat) ≠ 22 by omega), mg_i (show (4 : Nat) ≠ 22 by omega), mg_i (show (4 : Nat) ≠ 23 by omega)])
    300 0 τ (by omega) (by omega) ⟨fun _ _ _ _ => rfl, fun _ h => by omega⟩
  exact ⟨m, h3, h1, h2⟩
/-- how many hold the water up, by the reference -/
def blM (τ : Mem) (A : Nat) : Int32 := smI (fun i => if τ 24 i = 1 then 1 else if τ 22 i = 0 then 1 else 0) A
theorem fl146 {c : Mem → Int32 → Int32 → Option Mem} {τ : Mem} {x t0 : Int32} {k : Nat} (hk : k < 10) : fX10_findLosses_146 c τ x (nI k) t0 = c (mset τ 25 k (if τ 22 k = 0 then 0 else t0 + (if τ 1 k = 1 then x / 2 else x))) x (nI (k + 1)) := by
  unfold fX10_findLosses_146
  simp only [inbN (show k < 10 by omega) (show 10 < 2 ^ 31 by omega), if_true, cN (show k < 2 ^ 31 by omega), bmE, nIs]
  by_cases c1 : τ 22 k = 0
  · simp only [c1, if_true]
  · by_cases c2 : τ 1 k = 1
    · simp only [c1, c2, if_true, if_false]
    · simp only [c1, c2, if_false]
set_option maxHeartbeats 1000000 in
theorem losses_eq {τ : Mem} {A : Nat} {y fl : Int32} (hA : τ 0 1 = nI A) (hA2 : A ≤ 10) (hf : fX10_numberOf τ 0 y = some fl) : ∃ τ', fX10_findLosses τ y = some τ' ∧ (∀ i, i ≠ 25 → τ' i = τ i) ∧ ∀ i, i < A → τ' 25 i = lossV (τ 1 i) (τ 22 i) (τ 23 i) fl (blM τ A) := by
  unfold fX10_findLosses
  rw [lp_sum (fun n a i => fX10_findLosses_4 n τ y a i) (fun a => fX10_findLosses_45 τ y a) (fun i => if τ 24 i = 1 then 1 else if τ 22 i = 0 then 1 else 0) A ?_ ?_ 300 (by omega)]
  · show ∃ τ', fX10_findLosses_45 τ y (blM τ A) = some τ' ∧ _
    unfold fX10_findLosses_45
    rw [hf, boS, biE]
    obtain ⟨m, ⟨h1, h2⟩, h3⟩ := lp_up (S := Mem) (fun n m i => fX10_findLosses_63 n m (fl * (10 + blM τ A) / 10) i) (fun m => some m) (fun k m => (∀ i, i ≠ 25 → m i = τ i) ∧ ∀ i, i < k → m 25 i = lossV (τ 1 i) (τ 22 i) (τ 23 i) fl (blM τ A)) A
      (fun n m ⟨h1, h2⟩ => by
        show fX10_findLosses_63 (n + 1) m _ (nI A) = some m
        rw [fX10_findLosses_63, h1 0 (by omega), hA, if_pos (by rw [leN (by omega) (by omega)]; omega)])
      (fun n k m hk ⟨h1, h2⟩ => by
        refine ⟨mset m 25 k (lossV (τ 1 k) (τ 22 k) (τ 23 k) fl (blM τ A)), ⟨fun i a => by rw [mset_ne a]; exact h1 i a, fun i hi => ?_⟩, ?_⟩
        · by_cases e : i = k
          · subst e; rw [mg_e]
          · rw [mg_k e]; exact h2 i (by omega)
        · show fX10_findLosses_63 (n + 1) m _ (nI k) = _
          rw [fX10_findLosses_63, h1 0 (by omega), hA, if_neg (by rw [leN (by omega) (by omega)]; omega)]
          simp only [inbN (show k < 10 by omega) (show 10 < 2 ^ 31 by omega), if_true, cN (show k < 2 ^ 31 by omega), biE, fl146 (show k < 10 by omega), h1 1 (by omega), h1 22 (by omega), h1 23 (by omega)]
          unfold lossV wearV
          by_cases c1 : τ 1 k = 1
          · simp only [c1, if_true]
          · by_cases c2 : τ 1 k = 2
            · simp only [c1, c2, if_true, if_false, show ((2 : Int32) = 1) = False by decide]
            · by_cases c3 : τ 1 k = 3
              · simp only [c1, c2, c3, if_true, if_false, show ((3 : Int32) = 1) = False by decide, show ((3 : Int32) = 2) = False by decide]
              · simp only [c1, c2, c3, if_false])
      300 0 τ (by omega) (by omega) ⟨fun _ _ => rfl, fun _ h => by omega⟩
    exact ⟨m, h3, h1, h2⟩
  · intro n a
    show fX10_findLosses_4 (n + 1) τ y a (nI A) = _
    rw [fX10_findLosses_4, hA, if_pos (by rw [leN (by omega) (by omega)]; omega)]
  · intro n k a hk
    show fX10_findLosses_4 (n + 1) τ y a (nI k) = fX10_findLosses_4 n τ y _ (nI (k + 1))
    rw [fX10_findLosses_4, hA, if_neg (by rw [leN (by omega) (by omega)]; omega)]
    simp only [inbN (show k < 10 by omega) (show 10 < 2 ^ 31 by omega), if_true, cN (show k < 2 ^ 31 by omega), biE, nIs]
    by_cases c1 : τ 24 k = 1
    · simp only [c1, if_true]
    · by_cases c2 : τ 22 k = 0
      · simp only [c1, c2, if_true, if_false]
      · simp only [c1, c2, if_false]
def nS (s l : Int32) : Int32 := if s ≤ l then 0 else s - l
theorem lose47 {c : Mem → Int32 → Option Mem} {τ : Mem} {t : Int32} {k : Nat} (hk : k < 10) : ∃ τ', fX10_lose_47 c τ (nI k) (nI k) t = c τ' (nI (k + 1)) ∧ (∀ i, i ≠ 22 → i ≠ 23 → i ≠ 24 → τ' i = τ i) ∧ (∀ j, j ≠ k → τ' 22 j = τ 22 j ∧ τ' 23 j = τ 23 j ∧ τ' 24 j = τ 24 j) ∧ τ' 22 k = t ∧ τ' 23 k = (if t = 0 then 0 else τ 23 k) ∧ τ' 24 k = (if t = 0 then 0 else τ 24 k) := by
  unfold fX10_lose_47
  simp only [inbN (show k < 10 by omega) (show 10 < 2 ^ 31 by omega), if_true, cN (show k < 2 ^ 31 by omega), bmE, nIs, mg_e]
  by_cases c1 : t = 0
  · simp only [c1, if_true]
    refine ⟨_, rfl, fun i a b c => by rw [mset_ne c, mset_ne b, mset_ne a], fun j hj => ?_, ?_, ?_, ?_⟩
    · rw [mg_i (show (22 : Nat) ≠ 24 by omega), mg_i (show (22 : Nat) ≠ 23 by omega), mg_i (show (23 : Nat) ≠ 24 by omega), mg_k hj, mg_k hj, mg_k hj, mg_i (show (23 : Nat) ≠ 22 by omega), mg_i (show (24 : Nat) ≠ 23 by omega), mg_i (show (24 : Nat) ≠ 22 by omega)]; exact ⟨rfl, rfl, rfl⟩
    · rw [mg_i (by omega), mg_i (by omega), mg_e]
    · rw [mg_i (by omega), mg_e]
    · rw [mg_e]
  · simp only [c1, if_false]
    refine ⟨_, rfl, fun i a b c => by rw [mset_ne a], fun j hj => ?_, mg_e, ?_, ?_⟩
    · rw [mg_k hj, mg_i (show (23 : Nat) ≠ 22 by omega), mg_i (show (24 : Nat) ≠ 22 by omega)]; exact ⟨rfl, rfl, rfl⟩
    · rw [mg_i (by omega)]
    · rw [mg_i (by omega)]
set_option maxHeartbeats 1000000 in
theorem lose_eq {τ : Mem} {A : Nat} (hA : τ 0 1 = nI A) (hA2 : A ≤ 10) : ∃ τ', fX10_lose τ = some τ' ∧ (∀ i, i ≠ 22 → i ≠ 23 → i ≠ 24 → τ' i = τ i) ∧ ∀ i, i < A → τ' 22 i = nS (τ 22 i) (τ 25 i) ∧ τ' 23 i = (if nS (τ 22 i) (τ 25 i) = 0 then 0 else τ 23 i) ∧ τ' 24 i = (if nS (τ 22 i) (τ 25 i) = 0 then 0 else τ 24 i) := by
  unfold fX10_lose
  obtain ⟨m, ⟨h1, h2, h2'⟩, h3⟩ := lp_up (S := Mem) (fun n m i => fX10_lose_2 n m i) (fun m => some m) (fun k m => (∀ i, i ≠ 22 → i ≠ 23 → i ≠ 24 → m i = τ i) ∧ (∀ i, i < k → m 22 i = nS (τ 22 i) (τ 25 i) ∧ m 23 i = (if nS (τ 22 i) (τ 25 i) = 0 then 0 else τ 23 i) ∧ m 24 i = (if nS (τ 22 i) (τ 25 i) = 0 then 0 else τ 24 i)) ∧ ∀ i, k ≤ i → m 22 i = τ 22 i ∧ m 23 i = τ 23 i ∧ m 24 i = τ 24 i) A
    (fun n m ⟨h1, h2, _⟩ => by
      show fX10_lose_2 (n + 1) m (nI A) = some m
      rw [fX10_lose_2, h1 0 (by omega) (by omega) (by omega), hA, if_pos (by rw [leN (by omega) (by omega)]; omega)])
    (fun n k m hk ⟨h1, h2, h2'⟩ => by
      obtain ⟨τ', g1, g2, g3, g4, g5, g6⟩ := lose47 (c := fun σ_ v1_ => fX10_lose_2 n σ_ v1_) (τ := m) (t := nS (τ 22 k) (τ 25 k)) (show k < 10 by omega)
      obtain ⟨q1, q2, q3⟩ := h2' k (by omega)
      rw [q2] at g5
      rw [q3] at g6
      refine ⟨τ', ⟨fun i a b c => by rw [g2 i a b c]; exact h1 i a b c, fun i hi => ?_, fun i hi => ?_⟩, ?_⟩
      · by_cases e : i = k
        · subst e; exact ⟨g4, g5, g6⟩
        · obtain ⟨r1, r2, r3⟩ := g3 i e
          rw [r1, r2, r3]; exact h2 i (by omega)
      · obtain ⟨r1, r2, r3⟩ := g3 i (by omega)
        rw [r1, r2, r3]; exact h2' i (by omega)
      · show fX10_lose_2 (n + 1) m (nI k) = _
        rw [fX10_lose_2, h1 0 (by omega) (by omega) (by omega), hA, if_neg (by rw [leN (by omega) (by omega)]; omega)]
        simp only [inbN (show k < 10 by omega) (show 10 < 2 ^ 31 by omega), if_true, cN (show k < 2 ^ 31 by omega), q1, h1 25 (by omega) (by omega) (by omega)]
        rw [← g1]
        unfold nS
        by_cases c : τ 22 k ≤ τ 25 k
        · simp only [c, if_true]
        · simp only [c, if_false])
    300 0 τ (by omega) (by omega) ⟨fun _ _ _ _ => rfl, fun _ h => by omega, fun _ _ => ⟨rfl, rfl, rfl⟩⟩
  exact ⟨m, h3, h1, h2⟩
