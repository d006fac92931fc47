def RpuB (bd : Nat → Nat) (A : Nat) (σ τ : Mem) : Prop := ∀ p, p < 20 → (σ (44 + p) 1 = τ 11 p ∧ σ (44 + p) 2 = τ 12 p ∧ σ (44 + p) 3 = τ 13 p ∧ σ (44 + p) 4 = τ 15 p ∧ σ (44 + p) 5 = τ 14 p ∧ σ (44 + p) 6 = τ 16 p ∧ σ (44 + p) 7 = τ 17 p ∧ σ (44 + p) 8 = τ 18 p) ∧ (∀ e, e < 12 → σ (64 + p) e = τ 19 (12 * p + e)) ∧ Bd (τ 11 p) (3 + A) ∧ Bd (τ 12 p) 200 ∧ Bd (τ 13 p) 200 ∧ Bd (τ 15 p) 9999 ∧ Bd (τ 14 p) 1 ∧ Bd (τ 16 p) (bd p)
theorem RpuB.of {Y A : Nat} {σ τ : Mem} (h : Rpu Y A σ τ) : RpuB (fun p => if p = 0 then 400000 * Y else 10000 * (Y + 1 + np20 (τ 0 13))) A σ τ := h
theorem RpuB.to {Y A : Nat} {σ τ : Mem} (h : RpuB (fun p => if p = 0 then 400000 * Y else 10000 * (Y + 1 + np20 (τ 0 13))) A σ τ) : Rpu Y A σ τ := h
theorem RpuB.mono {bd bd' : Nat → Nat} {A : Nat} {σ τ : Mem} (h : RpuB bd A σ τ) (hb : ∀ p, p < 20 → bd p ≤ bd' p) : RpuB bd' A σ τ := by
  intro p hp
  obtain ⟨h1, h2, h3, h4, h5, h6, h7, h8⟩ := h p hp
  exact ⟨h1, h2, h3, h4, h5, h6, h7, h8.w (hb p hp)⟩
/-- a year under way: what the purses' steps touch -/
def Yr (bd : Nat → Nat) (A : Nat) (σ0 τ0 σ τ : Mem) : Prop := RpuB bd A σ τ ∧ Rro σ τ ∧ (∀ i, i ≠ 14 → ¬ (44 ≤ i ∧ i < 64) → σ i = σ0 i) ∧ ∀ i, i ≠ 16 → i ≠ 17 → i ≠ 18 → i ≠ 21 → τ i = τ0 i
/-- one purse's row changed -/
theorem RpuB.row {bd bd' : Nat → Nat} {A q : Nat} {σ τ σ' τ' : Mem} (h : RpuB bd A σ τ) (hq : q < 20) (hX : ∀ i, i ≠ 14 → i ≠ 44 + q → σ' i = σ i) (hXq : ∀ k, k ≠ 6 → k ≠ 7 → k ≠ 8 → σ' (44 + q) k = σ (44 + q) k) (hM : ∀ i, i ≠ 16 → i ≠ 17 → i ≠ 18 → i ≠ 21 → τ' i = τ i) (hMq : ∀ j, j ≠ q → τ' 16 j = τ 16 j ∧ τ' 17 j = τ 17 j ∧ τ' 18 j = τ 18 j) (e6 : σ' (44 + q) 6 = τ' 16 q) (e7 : σ' (44 + q) 7 = τ' 17 q) (e8 : σ' (44 + q) 8 = τ' 18 q) (hb : Bd (τ' 16 q) (bd' q)) (hbd : ∀ p, p < 20 → p ≠ q → bd p ≤ bd' p) : RpuB bd' A σ' τ' := by
  intro p hp
  obtain ⟨⟨q1, q2, q3, q4, q5, q6, q7, q8⟩, q9, b1, b2, b3, b4, b5, b6⟩ := h p hp
  rw [hM 11 (by omega) (by omega) (by omega) (by omega), hM 12 (by omega) (by omega) (by omega) (by omega), hM 13 (by omega) (by omega) (by omega) (by omega), hM 14 (by omega) (by omega) (by omega) (by omega), hM 15 (by omega) (by omega) (by omega) (by omega), hM 19 (by omega) (by omega) (by omega) (by omega), hX (64 + p) (by omega) (by omega)]
  by_cases e : p = q
  · subst e
    rw [hXq 1 (by omega) (by omega) (by omega), hXq 2 (by omega) (by omega) (by omega), hXq 3 (by omega) (by omega) (by omega), hXq 4 (by omega) (by omega) (by omega), hXq 5 (by omega) (by omega) (by omega)]
    exact ⟨⟨q1, q2, q3, q4, q5, e6, e7, e8⟩, q9, b1, b2, b3, b4, b5, hb⟩
  · obtain ⟨r1, r2, r3⟩ := hMq p e
    rw [hX (44 + p) (by omega) (by omega), r1, r2, r3]
    exact ⟨⟨q1, q2, q3, q4, q5, q6, q7, q8⟩, q9, b1, b2, b3, b4, b5, b6.w (hbd p hp e)⟩
set_option maxHeartbeats 1000000 in
theorem lapse_loop {bd : Nat → Nat} {A P Y : Nat} {σ0 τ0 σ τ : Mem} (hbd : ∀ p, p < 20 → bd p < 2 ^ 31) (hY : Y ≤ 200) (hP1 : 1 ≤ P) (hP : P ≤ 20) (y1 : σ0 0 9 = nI Y) (y2 : τ0 0 0 = nI Y) (p1 : σ0 9 1 = nI P) (p2 : τ0 0 13 = nI P) (h : Yr bd A σ0 τ0 σ τ) : ∃ σ' τ', fX9_lapsePurses σ = some σ' ∧ fX10_goOn_12 300 τ 1 = fX10_goOn_84 300 τ' 1 ∧ Yr bd A σ0 τ0 σ' τ' := by
  unfold fX9_lapsePurses
  obtain ⟨s, h1, h2⟩ := lp_up (S := Mem × Mem) (fun n s i => (fX9_lapsePurses_2 n s.1 i, fX10_goOn_12 n s.2 i)) (fun s => (some s.1, fX10_goOn_84 300 s.2 1)) (fun _ s => Yr bd A σ0 τ0 s.1 s.2) P
    (fun n s ⟨hu, ho, hX, hM⟩ => by
      show (fX9_lapsePurses_2 (n + 1) s.1 (nI P), fX10_goOn_12 (n + 1) s.2 (nI P)) = _
      rw [fX9_lapsePurses_2, fX10_goOn_12, hX 9 (by omega) (by omega), hM 0 (by omega) (by omega) (by omega) (by omega), p1, p2, if_pos (by rw [leN (by omega) (by omega)]; omega), if_pos (by rw [leN (by omega) (by omega)]; omega)])
    (fun n k s hk ⟨hu, ho, hX, hM⟩ => by
      obtain ⟨σ, τ⟩ := s
      dsimp only at hu ho hX hM ⊢
      obtain ⟨⟨q1, q2, q3, q4, q5, q6, q7, q8⟩, q9, b1, b2, b3, b4, b5, ⟨c, hc, ec⟩⟩ := hu k (by omega)
      have hcb := hbd k (by omega)
      have y1' : σ 0 9 = nI Y := by rw [hX 0 (by omega) (by omega)]; exact y1
      have y2' : τ 0 0 = nI Y := by rw [hM 0 (by omega) (by omega) (by omega) (by omega)]; exact y2
      have fk : (nI P ≤ nI k) = False := by rw [leN (by omega) (by omega)]; exact eq_false (by omega)
      rw [fX9_lapsePurses_2, fX10_goOn_12, hX 9 (by omega) (by omega), p1, show τ 0 13 = nI P by rw [hM 0 (by omega) (by omega) (by omega) (by omega)]; exact p2]
      simp only [fk, if_false, inbN (show k < 20 by omega) (show 20 < 2 ^ 31 by omega), if_true, cN (show k < 2 ^ 31 by omega), rf10, nIs, y1', y2', q3]
      by_cases c1 : nI Y ≤ τ 13 k
      · simp only [c1, if_true]
        exact ⟨(σ, τ), ⟨hu, ho, hX, hM⟩, rfl⟩
      simp only [c1, if_false]
      have hL : fX5_lapse σ (44 + k) = some (nI c, mset (mset σ (44 + k) 6 0) (44 + k) 8 (τ 18 k + nI c)) := by
        unfold fX5_lapse
        simp only [biE, bmE, q6, ec, mg_k (show (8 : Nat) ≠ 6 by omega), q8]
      have e6 : (6 : Int32) = nI 6 := rfl
      rw [hL, boS]
      dsimp only
      rw [e6, add_eq (k := 6) _ hY (by omega), boS, mg_i (show (14 : Nat) ≠ 44 + k by omega), mg_i (show (14 : Nat) ≠ 44 + k by omega)]
      by_cases c2 : τ 16 k ≤ 0
      · simp only [c2, if_true]
        have hc0 : c = 0 := by rw [ec, i0, leN (by omega) (by omega)] at c2; omega
        subst hc0
        have e9 : mset (mset (mset σ (44 + k) 6 0) (44 + k) 8 (τ 18 k + nI 0)) 14 (7 * Y + 6) (σ 14 (7 * Y + 6) + nI 0) = σ := by
          have s1 : mset σ (44 + k) 6 0 = σ := by
            have : σ (44 + k) 6 = 0 := by rw [q6, ec]; rfl
            rw [← this]; exact mset_id σ _ _
          rw [s1, nI_0, Int32.add_zero, Int32.add_zero, ← q8, mset_id, mset_id]
        rw [e9]
        exact ⟨(σ, τ), ⟨hu, ho, hX, hM⟩, rfl⟩
      · simp only [c2, if_false, bmE]
        have y2'' : mset τ 18 k (τ 18 k + τ 16 k) 0 0 = nI Y := by rw [mg_i (by omega)]; exact y2'
        rw [mg_i (show (16 : Nat) ≠ 18 by omega), told_eq (k := 6) _ y2'' hY (by omega), boS, mg_i (show (21 : Nat) ≠ 18 by omega), ec]
        refine ⟨(mset (mset (mset σ (44 + k) 6 0) (44 + k) 8 (τ 18 k + nI c)) 14 (7 * Y + 6) (σ 14 (7 * Y + 6) + nI c), mset (mset (mset τ 18 k (τ 18 k + nI c)) 21 (7 * Y + 6) (τ 21 (7 * Y + 6) + nI c)) 16 k 0), ⟨?_, ?_, fun i a b => ?_, fun i a b d e => ?_⟩, rfl⟩ <;> dsimp only
        · refine hu.row (show k < 20 by omega) (fun i a b => by rw [mset_ne a, mset_ne b, mset_ne b]) (fun j a b d => by rw [mg_i (by omega), mg_k d, mg_k a]) (fun i a b d e => by rw [mset_ne a, mset_ne e, mset_ne d]) (fun j hj => ?_) ?_ ?_ ?_ ⟨0, by omega, mg_e⟩ (fun p hp' hne => Nat.le_refl _)
          · refine ⟨?_, ?_, ?_⟩
            · rw [mg_k hj, mg_i (by omega), mg_i (by omega)]
            · rw [mg_i (by omega), mg_i (by omega), mg_i (by omega)]
            · rw [mg_i (by omega), mg_i (by omega), mg_k hj]
          · rw [mg_i (by omega), mg_k (by omega), mg_e, mg_e]
          · rw [mg_i (by omega), mg_k (by omega), mg_k (by omega), mg_i (by omega), mg_i (by omega), mg_i (by omega)]; exact q7
          · rw [mg_i (by omega), mg_e, mg_i (by omega), mg_i (by omega), mg_e]
        · exact Rro.cg (Rro.add ho (7 * Y + 6) (by omega) (nI c)) (by
            funext j
            by_cases ej : j = 7 * Y + 6
            · subst ej; rw [mg_e, mg_e]
            · rw [mg_k ej, mg_k ej, mg_i (by omega), mg_i (by omega)]) (by
            funext j
            rw [mg_i (by omega)]
            by_cases ej : j = 7 * Y + 6
            · subst ej; rw [mg_e, mg_e]
            · rw [mg_k ej, mg_k ej, mg_i (by omega)])
        · rw [mset_ne a, mset_ne (by omega), mset_ne (by omega)]; exact hX i a b
        · rw [mset_ne a, mset_ne e, mset_ne d]; exact hM i a b d e)
    300 1 (σ, τ) hP1 (by omega) h
  exact ⟨s.1, s.2, congrArg Prod.fst h2, congrArg Prod.snd h2, h1⟩
set_option maxHeartbeats 1000000 in
theorem come_both {bd bd' : Nat → Nat} {A Y q k : Nat} {σ0 τ0 σ τ : Mem} {x c : Nat} (h : Yr bd A σ0 τ0 σ τ) (hY : Y ≤ 200) (y1 : σ0 0 9 = nI Y) (y2 : τ0 0 0 = nI Y) (hq : q < 20) (hk : k ≤ 2) (hc : τ 16 q = nI c) (hb : c + x ≤ bd' q) (hbd : ∀ p, p < 20 → p ≠ q → bd p ≤ bd' p) : ∃ σ1 σ' τ', fX5_receive σ (44 + q) (nI x) = some σ1 ∧ fX6_add σ1 (nI Y) (nI k) (nI x) = some σ' ∧ (∀ j, j ≠ 6 → j ≠ 7 → σ1 (44 + q) j = σ (44 + q) j) ∧ σ1 0 9 = nI Y ∧ fX10_comes τ (nI q) (nI x) (nI k) = some τ' ∧ Yr bd' A σ0 τ0 σ' τ' := by
  obtain ⟨hu, ho, hX, hM⟩ := h
  obtain ⟨⟨q1, q2, q3, q4, q5, q6, q7, q8⟩, q9, b1, b2, b3, b4, b5, b6⟩ := hu q hq
  have y1' : σ 0 9 = nI Y := by rw [hX 0 (by omega) (by omega)]; exact y1
  have y2' : τ 0 0 = nI Y := by rw [hM 0 (by omega) (by omega) (by omega) (by omega)]; exact y2
  have hr : fX5_receive σ (44 + q) (nI x) = some (mset (mset σ (44 + q) 6 (nI (c + x))) (44 + q) 7 (τ 17 q + nI x)) := by
    unfold fX5_receive
    simp only [bmE, q6, hc, nI_add, mg_k (show (7 : Nat) ≠ 6 by omega), q7]
  have hm : fX10_comes τ (nI q) (nI x) (nI k) = some (mset (mset (mset τ 16 q (nI (c + x))) 17 q (τ 17 q + nI x)) 21 (7 * Y + k) (τ 21 (7 * Y + k) + nI x)) := by
    unfold fX10_comes
    simp only [inbN hq (show 20 < 2 ^ 31 by omega), if_true, cN (show q < 2 ^ 31 by omega), bmE, hc, nI_add, mg_i (show (17 : Nat) ≠ 16 by omega)]
    rw [told_eq (k := k) _ (by rw [mg_i (by omega), mg_i (by omega)]; exact y2') hY (by omega), boS, mg_i (by omega), mg_i (by omega)]
  refine ⟨_, _, _, hr, add_eq _ hY (by omega), fun j a b => by rw [mg_k b, mg_k a], by rw [mg_i (by omega), mg_i (by omega)]; exact y1', hm, ?_, ?_, fun i a b => ?_, fun i a b d e => ?_⟩
  · refine hu.row hq (fun i a b => by rw [mset_ne a, mset_ne b, mset_ne b]) (fun j a b d => by rw [mg_i (by omega), mg_k b, mg_k a]) (fun i a b d e => by rw [mset_ne e, mset_ne b, mset_ne a]) (fun j hj => ?_) ?_ ?_ ?_ ⟨c + x, hb, ?_⟩ hbd
    · refine ⟨?_, ?_, ?_⟩
      · rw [mg_i (by omega), mg_i (by omega), mg_k hj]
      · rw [mg_i (by omega), mg_k hj, mg_i (by omega)]
      · rw [mg_i (by omega), mg_i (by omega), mg_i (by omega)]
    · rw [mg_i (by omega), mg_k (by omega), mg_e, mg_i (by omega), mg_i (by omega), mg_e]
    · rw [mg_i (by omega), mg_e, mg_i (by omega), mg_e]
    · rw [mg_i (by omega), mg_k (by omega), mg_k (by omega), mg_i (by omega), mg_i (by omega), mg_i (by omega)]; exact q8
    · rw [mg_i (by omega), mg_i (by omega), mg_e]
  · exact Rro.cg (Rro.add ho (7 * Y + k) (by omega) (nI x)) (by
      funext j
      by_cases ej : j = 7 * Y + k
      · subst ej; rw [mg_e, mg_e, mg_i (by omega), mg_i (by omega)]
      · rw [mg_k ej, mg_k ej, mg_i (by omega), mg_i (by omega)]) (by
      funext j
      by_cases ej : j = 7 * Y + k
      · subst ej; rw [mg_e, mg_e]
      · rw [mg_k ej, mg_k ej, mg_i (by omega), mg_i (by omega)])
  · rw [mset_ne a, mset_ne (by omega), mset_ne (by omega)]; exact hX i a b
  · rw [mset_ne e, mset_ne b, mset_ne a]; exact hM i a b d e
set_option maxHeartbeats 1000000 in
theorem gift_loop {A P Y B0 B1 : Nat} {σ0 τ0 σ τ : Mem} (hB1 : B1 < 2 ^ 30) (hY : Y ≤ 200) (hP1 : 1 ≤ P) (hP : P ≤ 20) (y1 : σ0 0 9 = nI Y) (y2 : τ0 0 0 = nI Y) (p1 : σ0 9 1 = nI P) (p2 : τ0 0 13 = nI P) (h : Yr (fun p => if p = 0 then B0 else B1) A σ0 τ0 σ τ) : ∃ σ' τ', fX9_bringGiftsOfYear σ = some σ' ∧ fX10_goOn_84 300 τ 1 = fX10_goOn_159 τ' ∧ Yr (fun p => if p = 0 then B0 else B1 + 9999) A σ0 τ0 σ' τ' := by
  unfold fX9_bringGiftsOfYear
  obtain ⟨s, h1, h2⟩ := lp_up (S := Mem × Mem) (fun n s i => (fX9_bringGiftsOfYear_2 n s.1 i, fX10_goOn_84 n s.2 i)) (fun s => (some s.1, fX10_goOn_159 s.2)) (fun k s => 1 ≤ k ∧ Yr (fun p => if p = 0 then B0 else if p < k then B1 + 9999 else B1) A σ0 τ0 s.1 s.2) P
    (fun n s ⟨_, hu, ho, hX, hM⟩ => by
      show (fX9_bringGiftsOfYear_2 (n + 1) s.1 (nI P), fX10_goOn_84 (n + 1) s.2 (nI P)) = _
      rw [fX9_bringGiftsOfYear_2, fX10_goOn_84, hX 9 (by omega) (by omega), hM 0 (by omega) (by omega) (by omega) (by omega), p1, p2, if_pos (by rw [leN (by omega) (by omega)]; omega), if_pos (by rw [leN (by omega) (by omega)]; omega)])
    (fun n k s hk ⟨hk1, hyr⟩ => by
      obtain ⟨σ, τ⟩ := s
      have hyr0 := hyr
      obtain ⟨hu, ho, hX, hM⟩ := hyr
      dsimp only at hu ho hX hM hyr0 ⊢
      obtain ⟨⟨q1, q2, q3, q4, q5, q6, q7, q8⟩, q9, b1, ⟨fr, hfr, efr⟩, ⟨tl, htl, etl⟩, ⟨g, hg, eg⟩, b5, ⟨c, hc, ec⟩⟩ := hu k (by omega)
      dsimp only at hc
      rw [if_neg (show ¬ k = 0 by omega), if_neg (show ¬ k < k by omega)] at hc
      have y1' : σ 0 9 = nI Y := by rw [hX 0 (by omega) (by omega)]; exact y1
      have y2' : τ 0 0 = nI Y := by rw [hM 0 (by omega) (by omega) (by omega) (by omega)]; exact y2
      obtain ⟨σ1, σ', τ', r1, r2, r3, r4, r5, r6⟩ := come_both (bd' := fun p => if p = 0 then B0 else if p < k + 1 then B1 + 9999 else B1) (k := 0) (x := g) hyr0 hY y1 y2 (show k < 20 by omega) (by omega) ec (by rw [if_neg (by omega), if_pos (by omega)]; omega) (fun p hp hne => by
        try dsimp only
        split
        · omega
        · split <;> split <;> omega)
      have hsame : Yr (fun p => if p = 0 then B0 else if p < k + 1 then B1 + 9999 else B1) A σ0 τ0 σ τ := ⟨hu.mono (fun p hp => by
        try dsimp only
        split
        · omega
        · split <;> split <;> omega), ho, hX, hM⟩
      have fk : (nI P ≤ nI k) = False := by rw [leN (by omega) (by omega)]; exact eq_false (by omega)
      rw [fX9_bringGiftsOfYear_2, fX10_goOn_84, hX 9 (by omega) (by omega), p1, show τ 0 13 = nI P by rw [hM 0 (by omega) (by omega) (by omega) (by omega)]; exact p2]
      simp only [fk, if_false]
      have hbg : fX9_bringGift σ (44 + k) = some σ' := by
        unfold fX9_bringGift
        have r2' : fX6_add σ1 (nI Y) 0 (nI g) = some σ' := r2
        rw [q4, eg, r1, boS, r4, r3 4 (by omega) (by omega), q4, eg, r2', boS]
      have h141 : fX10_goOn_141 (fun σ_ v1_ => fX10_goOn_84 n σ_ v1_) τ (nI k) = fX10_goOn_84 n τ' (nI (k + 1)) := by
        unfold fX10_goOn_141
        have r5' : fX10_comes τ (nI k) (nI g) 0 = some τ' := r5
        simp only [inbN (show k < 20 by omega) (show 20 < 2 ^ 31 by omega), if_true, cN (show k < 2 ^ 31 by omega), eg, r5', boS, nIs]
      unfold fX5_isDue fX5_isOpen
      simp only [inbN (show k < 20 by omega) (show 20 < 2 ^ 31 by omega), if_true, cN (show k < 2 ^ 31 by omega), rf10, y1', y2', q2, q3, q5, efr, etl, h141, hbg, boS, nIs]
      have f1 : (nI Y = nI fr) = (Y = fr) := eqN (by omega) (by omega)
      have f2 : (nI Y ≤ nI fr) = (Y ≤ fr) := leN (by omega) (by omega)
      have f3 : (nI tl < nI Y) = (tl < Y) := ltN (by omega) (by omega)
      have f4 : (nI Y < nI fr) = (Y < fr) := ltN (by omega) (by omega)
      simp only [f1, f2, f3, f4]
      by_cases c1 : Y = fr
      · simp only [if_pos c1, z10, if_false]
        exact ⟨(σ', τ'), ⟨by omega, r6⟩, rfl⟩
      · simp only [if_neg c1]
        by_cases c2 : τ 14 k = 1
        · simp only [if_pos c2]
          by_cases c3 : Y < fr
          · simp only [if_pos c3, if_pos (show Y ≤ fr by omega), if_true]
            exact ⟨(σ, τ), ⟨by omega, hsame⟩, rfl⟩
          · simp only [if_neg c3, if_neg (show ¬ Y ≤ fr by omega)]
            by_cases c4 : tl < Y
            · simp only [if_pos c4, if_true]
              exact ⟨(σ, τ), ⟨by omega, hsame⟩, rfl⟩
            · simp only [if_neg c4, z10, if_false]
              exact ⟨(σ', τ'), ⟨by omega, r6⟩, rfl⟩
        · simp only [if_neg c2, if_true]
          exact ⟨(σ, τ), ⟨by omega, hsame⟩, rfl⟩)
    300 1 (σ, τ) hP1 (by omega) ⟨by omega, ⟨h.1.mono (fun p hp => by
        try dsimp only
        split
        · omega
        · split <;> omega), h.2⟩⟩
  refine ⟨s.1, s.2, congrArg Prod.fst h2, congrArg Prod.snd h2, h1.2.1.mono (fun p hp => ?_), h1.2.2⟩
  try dsimp only
  split
  · omega
  · split <;> omega
