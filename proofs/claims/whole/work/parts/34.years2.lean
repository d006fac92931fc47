/-- is an arch fallen, is a drawn one up -/
def flM (τ : Mem) : Nat → Int32
  | 0 => 0
  | n + 1 => if flM τ n = 0 then (if τ 2 n = 0 then 1 else 0) else 1
def drM (τ : Mem) : Nat → Int32
  | 0 => 0
  | n + 1 => if drM τ n = 0 then (if τ 1 n = 3 then (if τ 2 n ≤ 0 then 0 else 1) else 0) else 1
theorem fl01 (τ : Mem) : ∀ n, flM τ n = 0 ∨ flM τ n = 1
  | 0 => Or.inl rfl
  | n + 1 => by
    unfold flM
    by_cases c : flM τ n = 0
    · by_cases d : τ 2 n = 0
      · right; rw [if_pos c, if_pos d]
      · left; rw [if_pos c, if_neg d]
    · right; rw [if_neg c]
theorem dr01 (τ : Mem) : ∀ n, drM τ n = 0 ∨ drM τ n = 1
  | 0 => Or.inl rfl
  | n + 1 => by
    unfold drM
    by_cases c : drM τ n = 0
    · by_cases d : τ 1 n = 3
      · by_cases e : τ 2 n ≤ 0
        · left; rw [if_pos c, if_pos d, if_pos e]
        · right; rw [if_pos c, if_pos d, if_neg e]
      · left; rw [if_pos c, if_neg d]
    · right; rw [if_neg c]
theorem dr_up {τ : Mem} {k : Nat} (h : drM τ k = 1) : ∀ n, k ≤ n → drM τ n = 1
  | 0, hn => by rw [show k = 0 by omega] at h; exact h
  | n + 1, hn => by
    by_cases e : k = n + 1
    · subst e; exact h
    · have := dr_up h n (by omega)
      unfold drM; rw [this, if_neg (by decide)]
theorem fl_sum {τ : Mem} {f : Nat → Int32} : ∀ n, n < 2 ^ 30 → (∀ i, i < n → f i = if τ 2 i = 0 then 1 else 0) → ∃ m, m ≤ n ∧ smI f n = nI m ∧ (m = 0 ↔ flM τ n = 0)
  | 0, _, _ => ⟨0, by omega, rfl, by simp [flM]⟩
  | n + 1, hn, hf => by
    obtain ⟨m, h1, h2, h3⟩ := fl_sum n (by omega) (fun i hi => hf i (by omega))
    rw [smI, h2, hf n (by omega)]
    unfold flM
    by_cases c : τ 2 n = 0
    · refine ⟨m + 1, by omega, by rw [if_pos c, nIs], ?_⟩
      by_cases d : flM τ n = 0
      · simp [d, c]
      · simp [d]
    · refine ⟨m, by omega, by rw [if_neg c, add0], ?_⟩
      by_cases d : flM τ n = 0
      · simp [d, c, h3.mpr d]
      · simp [d]
        exact fun e => d (h3.mp e)
theorem draw_eq {σ τ : Mem} {A : Nat} (hA : σ 1 1 = nI A) (hA2 : A ≤ 10) (hq : ∀ i, i < A → σ (16 + i) 0 = τ 1 i ∧ σ (16 + i) 1 = τ 2 i ∧ Bd (τ 2 i) 1000) : fX2_hasDraw σ 1 = some (drM τ A) := by
  have key : ∀ n k, A - k < n → k ≤ A → drM τ k = 0 → fX2_hasDraw_2 n σ 1 (nI k) = some (drM τ A) := by
    intro n
    induction n with
    | zero => intro k h; omega
    | succ n ih =>
      intro k hn hk hd
      rw [fX2_hasDraw_2, hA]
      by_cases e : k = A
      · subst e; rw [if_pos (by rw [leN (by omega) (by omega)]; omega), hd]
      · have fk : (nI A ≤ nI k) = False := by rw [leN (by omega) (by omega)]; exact eq_false (by omega)
        obtain ⟨q1, q2, s, hs, es⟩ := hq k (by omega)
        have fs : (nI s ≤ 0) = (s = 0) := by rw [i0, leN (by omega) (by omega)]; exact propext (by omega)
        have fs2 : (nI s = 0) = (s = 0) := by rw [i0, eqN (by omega) (by omega)]
        unfold fX0_isFallen
        simp only [fk, if_false, inbN (show k < 10 by omega) (show 10 < 2 ^ 31 by omega), if_true, cN (show k < 2 ^ 31 by omega), rf1, rf3, q1, q2, es, nIs, fs2]
        by_cases c1 : τ 1 k = 3
        · by_cases c2 : s = 0
          · simp only [c1, c2, if_true, z10, if_false]
            exact ih (k + 1) (by omega) (by omega) (by unfold drM; rw [hd, if_pos rfl, if_pos c1, es, if_pos (by rw [fs]; exact c2)])
          · simp only [c1, c2, if_true, if_false]
            rw [dr_up (k := k + 1) (by unfold drM; rw [hd, if_pos rfl, if_pos c1, es, if_neg (by rw [fs]; exact c2)]) A (by omega)]
        · simp only [c1, if_false]
          exact ih (k + 1) (by omega) (by omega) (by unfold drM; rw [hd, if_pos rfl, if_neg c1])
  exact key 300 0 (by omega) (by omega) rfl
set_option maxHeartbeats 1000000 in
theorem m168 {τ : Mem} {A : Nat} (hA : τ 0 1 = nI A) (hA2 : A ≤ 10) : fX10_goOn_159 τ = fX10_goOn_244 τ (flM τ A) (drM τ A) (smI (fun i => τ 3 i) A) := by
  unfold fX10_goOn_159
  obtain ⟨s, h1, h2⟩ := lp_up (S := Int32 × Int32 × Int32) (fun n s i => fX10_goOn_168 n τ s.1 s.2.1 s.2.2 i) (fun s => fX10_goOn_244 τ s.1 s.2.1 s.2.2) (fun k s => s = (flM τ k, drM τ k, smI (fun i => τ 3 i) k)) A
    (fun n s h => by
      show fX10_goOn_168 (n + 1) τ s.1 s.2.1 s.2.2 (nI A) = _
      rw [fX10_goOn_168, hA, if_pos (by rw [leN (by omega) (by omega)]; omega)])
    (fun n k s hk h => by
      refine ⟨_, rfl, ?_⟩
      subst h
      have fk : (nI A ≤ nI k) = False := by rw [leN (by omega) (by omega)]; exact eq_false (by omega)
      show fX10_goOn_168 (n + 1) τ (flM τ k) (drM τ k) (smI (fun i => τ 3 i) k) (nI k) = fX10_goOn_168 n τ (flM τ (k + 1)) (drM τ (k + 1)) (smI (fun i => τ 3 i) (k + 1)) (nI (k + 1))
      have h227 : ∀ a b, fX10_goOn_227 (fun σ_ v1_ v2_ v3_ v4_ => fX10_goOn_168 n σ_ v1_ v2_ v3_ v4_) τ a (smI (fun i => τ 3 i) k) (nI k) b = fX10_goOn_168 n τ a b (smI (fun i => τ 3 i) (k + 1)) (nI (k + 1)) := by
        intro a b
        unfold fX10_goOn_227
        simp only [inbN (show k < 10 by omega) (show 10 < 2 ^ 31 by omega), if_true, cN (show k < 2 ^ 31 by omega), biE, nIs]
        rfl
      have h196 : ∀ t, fX10_goOn_196 (fun σ_ v1_ v2_ v3_ v4_ => fX10_goOn_168 n σ_ v1_ v2_ v3_ v4_) τ (drM τ k) (smI (fun i => τ 3 i) k) (nI k) t = fX10_goOn_168 n τ t (drM τ (k + 1)) (smI (fun i => τ 3 i) (k + 1)) (nI (k + 1)) := by
        intro t
        unfold fX10_goOn_196 fX10_goOn_226 fX10_goOn_222
        simp only [h227, inbN (show k < 10 by omega) (show 10 < 2 ^ 31 by omega), if_true, cN (show k < 2 ^ 31 by omega)]
        conv => rhs; rw [drM]
        by_cases c : drM τ k = 0
        · by_cases d : τ 1 k = 3
          · by_cases e : τ 2 k ≤ 0
            · simp only [c, d, e, if_true]
            · simp only [c, d, e, if_true, if_false]
          · simp only [c, d, if_true, if_false]
        · simp only [c, if_false]
      rw [fX10_goOn_168, hA]
      unfold fX10_goOn_191
      simp only [fk, if_false, h196, inbN (show k < 10 by omega) (show 10 < 2 ^ 31 by omega), if_true, cN (show k < 2 ^ 31 by omega)]
      conv => rhs; rw [flM]
      by_cases c : flM τ k = 0
      · by_cases d : τ 2 k = 0
        · simp only [c, d, if_true]
        · simp only [c, d, if_true, if_false]
      · simp only [c, if_false])
    300 0 (0, 0, 0) (by omega) (by omega) rfl
  subst h1
  exact h2
/-- a year's tolls -/
def tollI (a b r0 r1 r2 n1 n2 n3 : Int32) : Int32 := (if a = 0 then r0 * n1 + r1 * n2 else 0) + (if b = 0 then 0 else r2 * n3)
set_option maxHeartbeats 1000000 in
theorem toll_class {σ : Mem} {t d n1 n2 n3 : Int32} (hd : fX2_hasDraw σ 1 = some d) (e1 : fX7_inYear σ 37 (σ 0 9) = some n1) (e2 : fX7_inYear σ 38 (σ 0 9) = some n2) (e3 : fX7_inYear σ 39 (σ 0 9) = some n3) : fX9_bringTolls_15 σ t = fX9_bringTolls_79 σ ((if t = 0 then 0 else σ 15 0 * n1 + σ 15 1 * n2) + (if d = 0 then 0 else σ 15 2 * n3)) := by
  unfold fX9_bringTolls_15
  have s3 : ∀ x, fX9_bringTolls_20 297 σ t x 3 = fX9_bringTolls_79 σ x := fun x => by rw [fX9_bringTolls_20, if_pos (by decide)]
  have s2 : ∀ x, fX9_bringTolls_20 298 σ t x 2 = fX9_bringTolls_79 σ (x + (if d = 0 then 0 else σ 15 2 * n3)) := fun x => by
    rw [fX9_bringTolls_20, if_neg (by decide), if_pos (by decide), hd, boS]
    unfold fX9_bringTolls_41
    have i1 : inb 2 6 = true := by decide
    have i2 : inb (1 + 2) 4 = true := by decide
    have c1 : (2 : Int32).toNatClampNeg = 2 := by decide
    have c2 : (1 + 2 : Int32).toNatClampNeg = 3 := by decide
    have c3 : (2 : Int32) + 1 = 3 := by decide
    simp only [i1, i2, c1, c2, c3, if_true, biE, rf5, e3, boS, s3]
    by_cases c : d = 0
    · simp only [c, if_true, add0]
    · simp only [c, if_false]
  have s1 : ∀ x, fX9_bringTolls_20 299 σ t x 1 = fX9_bringTolls_20 298 σ t (if t = 0 then x else x + σ 15 1 * n2) 2 := fun x => by
    rw [fX9_bringTolls_20, if_neg (by decide), if_neg (by decide)]
    unfold fX9_bringTolls_41
    have i1 : inb 1 6 = true := by decide
    have i2 : inb (1 + 1) 4 = true := by decide
    have c1 : (1 : Int32).toNatClampNeg = 1 := by decide
    have c2 : (1 + 1 : Int32).toNatClampNeg = 2 := by decide
    have c3 : (1 : Int32) + 1 = 2 := by decide
    simp only [i1, i2, c1, c2, if_true, biE, rf5, e2, boS]
    by_cases c : t = 0
    · simp only [c, if_true, c3]
    · simp only [c, if_false, c3]
  have s0 : ∀ x, fX9_bringTolls_20 300 σ t x 0 = fX9_bringTolls_20 299 σ t (if t = 0 then x else x + σ 15 0 * n1) 1 := fun x => by
    rw [fX9_bringTolls_20, if_neg (by decide), if_neg (by decide)]
    unfold fX9_bringTolls_41
    have i1 : inb 0 6 = true := by decide
    have i2 : inb (1 + 0) 4 = true := by decide
    have c1 : (0 : Int32).toNatClampNeg = 0 := by decide
    have c2 : (1 + 0 : Int32).toNatClampNeg = 1 := by decide
    have c3 : (0 : Int32) + 1 = 1 := by decide
    simp only [i1, i2, c1, c2, if_true, biE, rf5, e1, boS]
    by_cases c : t = 0
    · simp only [c, if_true, c3]
    · simp only [c, if_false, c3]
  rw [s0, s1, s2]
  by_cases c : t = 0
  · simp only [c, if_true]
  · simp only [c, if_false, Int32.zero_add]
theorem bd_mul {a b : Int32} {n m : Nat} (h1 : Bd a n) (h2 : Bd b m) : Bd (a * b) (n * m) := by
  obtain ⟨x, hx, rfl⟩ := h1
  obtain ⟨y, hy, rfl⟩ := h2
  exact ⟨x * y, Nat.mul_le_mul hx hy, pk_mul x y⟩
theorem bd_add {a b : Int32} {n m : Nat} (h1 : Bd a n) (h2 : Bd b m) : Bd (a + b) (n + m) := by
  obtain ⟨x, hx, rfl⟩ := h1
  obtain ⟨y, hy, rfl⟩ := h2
  exact ⟨x + y, by omega, nI_add x y⟩
theorem bd_sm {f : Nat → Int32} {m : Nat} : ∀ n, (∀ i, i < n → Bd (f i) m) → Bd (smI f n) (m * n)
  | 0, _ => ⟨0, by omega, rfl⟩
  | n + 1, h => by
    have := bd_add (bd_sm n (fun i hi => h i (by omega))) (h n (by omega))
    exact this
set_option maxHeartbeats 1000000 in
theorem toll_rent {A Y B0 B1 : Nat} {σ0 τ0 σ τ : Mem} (hY : Y ≤ 200) (hA2 : A ≤ 10) (y1 : σ0 0 9 = nI Y) (y2 : τ0 0 0 = nI Y) (a1 : σ0 1 1 = nI A) (a2 : τ0 0 1 = nI A) (ha : Rar σ0 τ0) (hr : Rru σ0 τ0) (hs : Rsh σ0 τ0) (h : Yr (fun p => if p = 0 then B0 else B1) A σ0 τ0 σ τ) : ∃ σ1 σ' τ', fX9_bringTolls σ = some σ1 ∧ fX9_bringRents σ1 = some σ' ∧ fX10_goOn_159 τ = (bo (fX10_asItIs τ') (fun z3 => bo (fX10_findLosses z3 (z3 0 0)) (fun z4 => bo (fX10_lose z4) (fun z5 => fX10_goOn_357 300 z5 0)))) ∧ Yr (fun p => if p = 0 then B0 + 304000 else B1) A σ0 τ0 σ' τ' := by
  have h00 := h
  obtain ⟨hu, ho, hX, hM⟩ := h
  have hx0 : ∀ i, i < 9 → σ i = σ0 i := fun i hi => hX i (by omega) (by omega)
  have hxa : ∀ i, i < 10 → σ (16 + i) = σ0 (16 + i) := fun i hi => hX (16 + i) (by omega) (by omega)
  have hm0 : ∀ i, i < 11 → τ i = τ0 i := fun i hi => hM i (by omega) (by omega) (by omega) (by omega)
  have hs' : Rsh σ τ := hs.cg (fun s h => hX (36 + s) (by omega) (by omega)) (fun s h => hX (40 + s) (by omega) (by omega)) (hm0 6 (by omega)) (hm0 7 (by omega)) (hm0 8 (by omega)) (hm0 9 (by omega))
  have hr' : Rru σ τ := hr.cg (hX 15 (by omega) (by omega)) (hm0 5 (by omega))
  have y1' : σ 0 9 = nI Y := by rw [hx0 0 (by omega)]; exact y1
  have y2' : τ 0 0 = nI Y := by rw [hm0 0 (by omega)]; exact y2
  have a1' : σ 1 1 = nI A := by rw [hx0 1 (by omega)]; exact a1
  have a2' : τ 0 1 = nI A := by rw [hm0 0 (by omega)]; exact a2
  have ha' : Rar σ τ := ha.cg (fun i hi k hk => by rw [hxa i hi]) (hm0 1 (by omega)) (hm0 2 (by omega)) (hm0 3 (by omega)) (hm0 4 (by omega))
  obtain ⟨n1, c1, m1, b1⟩ := inYear_eq hs' (show 1 < 4 by omega) (show Y < 2 ^ 30 by omega)
  obtain ⟨n2, c2, m2, b2⟩ := inYear_eq hs' (show 2 < 4 by omega) (show Y < 2 ^ 30 by omega)
  obtain ⟨n3, c3, m3, b3⟩ := inYear_eq hs' (show 3 < 4 by omega) (show Y < 2 ^ 30 by omega)
  rw [← y1'] at c1 c2 c3
  rw [← y2'] at m1 m2 m3
  have hdr := draw_eq (σ := σ) (τ := τ) a1' hA2 (fun i hi => by obtain ⟨⟨q1, q2, q3, q4⟩, -, b2, -⟩ := ha' i (by omega); exact ⟨q1, q2, b2⟩)
  have hfa := fallen_eq (σ := σ) (b := 1) (B := 16) (A := A) (fun k => rfl) a1' hA2
  obtain ⟨m, hm1, hm2, hm3⟩ := fl_sum (τ := τ) (f := fun i => if σ (16 + i) 1 = 0 then 1 else 0) A (by omega) (fun i hi => by
    obtain ⟨⟨q1, q2, q3, q4⟩, -⟩ := ha' i (by omega)
    try dsimp only
    rw [q2])
  rw [hm2] at hfa
  obtain ⟨r0, br0⟩ := hr' 0 (by omega)
  obtain ⟨r1, br1⟩ := hr' 1 (by omega)
  obtain ⟨r2, br2⟩ := hr' 2 (by omega)
  obtain ⟨r3, br3⟩ := hr' 3 (by omega)
  obtain ⟨X, hXx⟩ : ∃ X, X = tollI (flM τ A) (drM τ A) (τ 5 0) (τ 5 1) (τ 5 2) n1 n2 n3 := ⟨_, rfl⟩
  obtain ⟨H, hH⟩ : ∃ H, H = smI (fun i => τ 3 i) A := ⟨_, rfl⟩
  have hXb : Bd X 300000 := by
    rw [hXx]; unfold tollI
    refine bd_add (n := 200000) (m := 100000) ?_ ?_
    · split
      · exact bd_add (n := 100000) (m := 100000) (bd_mul (n := 100) (m := 1000) br0 b1) (bd_mul (n := 100) (m := 1000) br1 b2)
      · exact ⟨0, by omega, rfl⟩
    · split
      · exact ⟨0, by omega, rfl⟩
      · exact bd_mul (n := 100) (m := 1000) br2 b3
  have hHb : Bd H 40 := by
    rw [hH]
    exact (bd_sm (m := 4) A (fun i hi => (ha' i (by omega)).2.2.2.1)).w (by omega)
  have hRb : Bd (τ 5 3 * H) 4000 := bd_mul (n := 100) (m := 40) br3 hHb
  obtain ⟨x, hxb, ex⟩ := hXb
  obtain ⟨z, hzb, ez⟩ := hRb
  obtain ⟨-, -, -, -, -, -, -, ⟨c, hc, ec⟩⟩ := hu 0 (by omega)
  have hc' : c ≤ B0 := hc
  -- tolls
  obtain ⟨σ1, σ2, τ2, k1, k2, k3, k4, k5, k6⟩ := come_both (bd' := fun p => if p = 0 then B0 + 300000 else B1) (k := 1) (x := x) h00 hY y1 y2 (show 0 < 20 by omega) (by omega) ec (by show c + x ≤ B0 + 300000; omega) (fun p hp hne => by rw [if_neg hne, if_neg hne]; exact Nat.le_refl _)
  have k1' : fX5_receive σ 44 (nI x) = some σ1 := k1
  have k2' : fX6_add σ1 (nI Y) 1 (nI x) = some σ2 := k2
  have k5' : fX10_comes τ 0 (nI x) 1 = some τ2 := k5
  have hT : fX9_bringTolls σ = some σ2 := by
    unfold fX9_bringTolls
    rw [hfa, boS]
    have f0 : (nI m = (0 : Int32)) = (m = 0) := eqN (b := 0) (by omega) (by omega)
    simp only [f0, toll_class hdr c1 c2 c3, r0, r1, r2, z10, if_false, if_true]
    have key : (if m = 0 then fX9_bringTolls_79 σ ((τ 5 0 * n1 + τ 5 1 * n2) + (if drM τ A = 0 then 0 else τ 5 2 * n3)) else fX9_bringTolls_79 σ (0 + (if drM τ A = 0 then 0 else τ 5 2 * n3))) = fX9_bringTolls_79 σ X := by
      rw [hXx]; unfold tollI
      by_cases cm : m = 0
      · rw [if_pos cm, if_pos (hm3.mp cm)]
      · rw [if_neg cm, if_neg (fun e => cm (hm3.mpr e))]
    rw [key, ex]
    unfold fX9_bringTolls_79
    rw [k1', boS, k4, k2', boS]
  -- rents
  obtain ⟨hu2, ho2, hX2, hM2⟩ := k6
  obtain ⟨-, -, -, -, -, -, -, ⟨c', hc', ec'⟩⟩ := hu2 0 (by omega)
  have hc'' : c' ≤ B0 + 300000 := hc'
  obtain ⟨σ3, σ4, τ4, l1, l2, l3, l4, l5, l6⟩ := come_both (bd' := fun p => if p = 0 then B0 + 304000 else B1) (k := 2) (x := z) ⟨hu2, ho2, hX2, hM2⟩ hY y1 y2 (show 0 < 20 by omega) (by omega) ec' (by show c' + z ≤ B0 + 304000; omega) (fun p hp hne => by rw [if_neg hne, if_neg hne]; exact Nat.le_refl _)
  have l1' : fX5_receive σ2 44 (nI z) = some σ3 := l1
  have l2' : fX6_add σ3 (nI Y) 2 (nI z) = some σ4 := l2
  have l5' : fX10_comes τ2 0 (nI z) 2 = some τ4 := l5
  have hR : fX9_bringRents σ2 = some σ4 := by
    unfold fX9_bringRents
    have e1 : smI (fun i => σ2 (16 + i) 2) A = H := by
      rw [hH]
      refine smI_congr A (fun i hi => ?_)
      rw [hX2 (16 + i) (by omega) (by omega), ← hxa i (by omega)]
      exact (ha' i (by omega)).1.2.2.1
    rw [houses_eq (σ := σ2) (b := 1) (B := 16) (A := A) (fun k => rfl) (by rw [hX2 1 (by omega) (by omega)]; exact a1) hA2, boS, e1, biE, hX2 15 (by omega) (by omega), ← hX 15 (by omega) (by omega), r3, ez, l1', boS, l4, l2', boS]
  have hG : fX10_goOn_159 τ = (bo (fX10_asItIs τ4) (fun z3 => bo (fX10_findLosses z3 (z3 0 0)) (fun z4 => bo (fX10_lose z4) (fun z5 => fX10_goOn_357 300 z5 0)))) := by
    rw [m168 a2' hA2, ← hH]
    have h313 : ∀ t0 t1, t0 + t1 = X → fX10_goOn_313 τ H t0 t1 = (bo (fX10_asItIs τ4) (fun z3 => bo (fX10_findLosses z3 (z3 0 0)) (fun z4 => bo (fX10_lose z4) (fun z5 => fX10_goOn_357 300 z5 0)))) := by
      intro t0 t1 e
      unfold fX10_goOn_313
      rw [biE, e, ex, k5', boS, hM2 5 (by omega) (by omega) (by omega) (by omega), ← hM 5 (by omega) (by omega) (by omega) (by omega), ez, l5', boS]
    unfold fX10_goOn_244 fX10_goOn_285
    have m1' : fX10_numberOf τ 1 (τ 0 0) = some n1 := m1
    have m2' : fX10_numberOf τ 2 (τ 0 0) = some n2 := m2
    have m3' : fX10_numberOf τ 3 (τ 0 0) = some n3 := m3
    simp only [m1', m2', m3', boS]
    have hXx' := hXx
    unfold tollI at hXx'
    by_cases cf : flM τ A = 0
    · by_cases cd : drM τ A = 0
      · rw [if_pos cf, if_pos cd]
        exact h313 _ _ (by rw [hXx', if_pos cf, if_pos cd])
      · rw [if_pos cf, if_neg cd]
        exact h313 _ _ (by rw [hXx', if_pos cf, if_neg cd])
    · by_cases cd : drM τ A = 0
      · rw [if_neg cf, if_pos cd]
        exact h313 _ _ (by rw [hXx', if_neg cf, if_pos cd])
      · rw [if_neg cf, if_neg cd]
        exact h313 _ _ (by rw [hXx', if_neg cf, if_neg cd])
  exact ⟨σ2, σ4, τ4, hT, hR, hG, l6⟩
