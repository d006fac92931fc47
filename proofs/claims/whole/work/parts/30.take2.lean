def smN (f : Nat → Nat) : Nat → Nat
  | 0 => 0
  | n + 1 => smN f n + f n
theorem smN_le {f : Nat → Nat} {q : Nat} : ∀ n, q < n → f q ≤ smN f n
  | 0, h => by omega
  | n + 1, h => by
    rw [smN]
    by_cases e : q = n
    · subst e; omega
    · have := smN_le (f := f) n (show q < n by omega); omega
theorem smN_congr {f g : Nat → Nat} : ∀ n, (∀ i, i < n → f i = g i) → smN f n = smN g n
  | 0, _ => rfl
  | n + 1, h => by rw [smN, smN, smN_congr n (fun i hi => h i (by omega)), h n (by omega)]
theorem smN_zero {f : Nat → Nat} : ∀ n, (∀ i, i < n → f i = 0) → smN f n = 0
  | 0, _ => rfl
  | n + 1, h => by rw [smN, smN_zero n (fun i hi => h i (by omega)), h n (by omega)]
theorem smN_dec {f g : Nat → Nat} {n q t : Nat} (hq : q < n) (h1 : g q + t = f q) (h2 : ∀ i, i < n → i ≠ q → g i = f i) : smN g n + t = smN f n := by
  induction n with
  | zero => omega
  | succ n ih =>
    simp only [smN]
    by_cases e : q = n
    · subst e
      rw [smN_congr q (fun i hi => h2 i (by omega) (by omega))]; omega
    · have := ih (by omega) (fun i hi hne => h2 i (by omega) hne)
      rw [h2 n (by omega) (fun z => e z.symm)]; omega
theorem smI_nI {f : Nat → Int32} {g : Nat → Nat} : ∀ n, (∀ i, i < n → f i = nI (g i)) → smI f n = nI (smN g n)
  | 0, _ => rfl
  | n + 1, h => by rw [smI, smN, smI_nI n (fun i hi => h i (by omega)), h n (by omega), nI_add]
def fp (σ : Mem) (v y : Int32) (p : Nat) : Nat := if fX5_canPay σ (44 + p) v y = 0 then 0 else (σ (44 + p) 6).toNatClampNeg
def np (σ : Mem) (v y : Int32) (p : Nat) : Nat := if fX5_canPay σ (44 + p) v y = 0 then 0 else 1
theorem can_congr {σ σ' : Mem} {i : Nat} (v y : Int32) (h : σ' i = σ i) : fX5_canPay σ' i v y = fX5_canPay σ i v y := by
  unfold fX5_canPay fX5_isOpen fX5_serves; rw [h]
/-- the bound of a purse's coins -/
theorem coin_bd {Y A : Nat} {σ τ : Mem} {p : Nat} (hu : Rpu Y A σ τ) (hY : Y ≤ 200) (hp : p < 20) : ∃ c, c ≤ (if p = 0 then 80000000 else 2210000) ∧ σ (44 + p) 6 = nI c ∧ τ 16 p = nI c := by
  obtain ⟨⟨-, -, -, -, -, q6, -, -⟩, -, -, -, -, -, -, ⟨c, hc, e⟩⟩ := hu p hp
  have hn20 := np20_le (τ 0 13)
  refine ⟨c, ?_, by rw [q6, e], e⟩
  split
  · rename_i h; rw [if_pos h] at hc; omega
  · rename_i h; rw [if_neg h] at hc; omega
theorem fp_bd {Y A : Nat} {σ τ : Mem} (v y : Int32) (hu : Rpu Y A σ τ) (hY : Y ≤ 200) : ∀ n, n ≤ 20 → smN (fp σ v y) n ≤ 80000000 + 2210000 * n
  | 0, _ => by simp [smN]
  | n + 1, hn => by
    have ih := fp_bd v y hu hY n (by omega)
    obtain ⟨c, hc, e, -⟩ := coin_bd hu hY (show n < 20 by omega)
    have h1 : fp σ v y n ≤ c := by
      unfold fp; rw [e]; split
      · omega
      · rw [cN (by split at hc <;> omega)]; omega
    rw [smN]
    by_cases e0 : n = 0
    · subst e0; rw [if_pos rfl] at hc; simp only [smN]; omega
    · rw [if_neg e0] at hc; omega
theorem funds_nI {Y A : Nat} {σ τ : Mem} (v y : Int32) (hu : Rpu Y A σ τ) (hY : Y ≤ 200) {P : Nat} (hP : P ≤ 20) : smI (pay1 σ v y) P = nI (smN (fp σ v y) P) := by
  refine smI_nI P (fun i hi => ?_)
  obtain ⟨c, hc, e, -⟩ := coin_bd hu hY (show i < 20 by omega)
  unfold pay1 fp
  rw [e, cN (by split at hc <;> omega)]
  split <;> rfl
def Tk (Y A P e : Nat) (σ0 τ0 σ τ : Mem) (d : Nat) : Prop :=
  Rpu Y A σ τ ∧ Rbk σ τ ∧ (∃ O Z, (σ 11 1 = nI O ∧ τ 0 24 = nI O ∧ O < 200) ∧ (σ 11 2 = nI Z ∧ τ 0 25 = nI Z ∧ Z ≤ 200)) ∧
  (∀ i, i ≠ 11 → i ≠ 12 → ¬ (44 ≤ i ∧ i < 84) → σ i = σ0 i) ∧ (∀ i, i ≠ 0 → i ≠ 16 → i ≠ 19 → i ≠ 20 → τ i = τ0 i) ∧ (∀ k, k ≠ 24 → k ≠ 25 → τ 0 k = τ0 0 k) ∧
  (∀ p f, p < 20 → f < 12 → f ≠ e → τ 19 (12 * p + f) = τ0 19 (12 * p + f)) ∧ (∀ p, P ≤ p → p < 20 → τ 19 (12 * p + e) = τ0 19 (12 * p + e)) ∧ smI (fun p => τ 19 (12 * p + e)) P = smI (fun p => τ0 19 (12 * p + e)) P + nI d
set_option maxHeartbeats 1000000 in
theorem pay_rpu {Y A : Nat} {σ τ : Mem} {q e c t : Nat} (hY : Y ≤ 200) (hu : Rpu Y A σ τ) (hq : q < 20) (he : e < 12) (hc : τ 16 q = nI c) (hcb : c < 2 ^ 31) (ht : t ≤ c) : Rpu Y A (mset (mset σ (44 + q) 6 (nI (c - t))) (64 + q) e (σ (64 + q) e + nI t)) (mset (mset τ 16 q (nI (c - t))) 19 (12 * q + e) (τ 19 (12 * q + e) + nI t)) := by
  intro p hp
  obtain ⟨⟨q1, q2, q3, q4, q5, q6, q7, q8⟩, q9, b1, b2, b3, b4, b5, b6⟩ := hu p hp
  have hM : ∀ i, i ≠ 16 → i ≠ 19 → mset (mset τ 16 q (nI (c - t))) 19 (12 * q + e) (τ 19 (12 * q + e) + nI t) i = τ i := fun i h1 h2 => by rw [mset_ne h2, mset_ne h1]
  rw [hM 11 (by omega) (by omega), hM 12 (by omega) (by omega), hM 13 (by omega) (by omega), hM 14 (by omega) (by omega), hM 15 (by omega) (by omega), hM 17 (by omega) (by omega), hM 18 (by omega) (by omega), hM 0 (by omega) (by omega), mset_ne (show 44 + p ≠ 64 + q by omega), mset_ne (show 16 ≠ 19 by omega)]
  by_cases ep : p = q
  · subst ep
    rw [mg_k (show (1 : Nat) ≠ 6 by omega), mg_k (show (2 : Nat) ≠ 6 by omega), mg_k (show (3 : Nat) ≠ 6 by omega), mg_k (show (4 : Nat) ≠ 6 by omega), mg_k (show (5 : Nat) ≠ 6 by omega), mg_k (show (7 : Nat) ≠ 6 by omega), mg_k (show (8 : Nat) ≠ 6 by omega), mg_e, mg_e]
    refine ⟨⟨q1, q2, q3, q4, q5, rfl, q7, q8⟩, fun f hf => ?_, b1, b2, b3, b4, b5, ?_⟩
    · by_cases ef : f = e
      · subst ef; rw [mg_e, mg_e, q9 f hf]
      · rw [mg_k ef, mg_k (by omega), mg_i (by omega), mg_i (by omega)]; exact q9 f hf
    · obtain ⟨c', hc', e'⟩ := b6
      have hn20 := np20_le (τ 0 13)
      have : c = c' := by
        rw [hc, eqN hcb (by split at hc' <;> omega)] at e'; exact e'
      exact ⟨c - t, by omega, rfl⟩
  · rw [mset_ne (show 44 + p ≠ 44 + q by omega), mg_k ep]
    refine ⟨⟨q1, q2, q3, q4, q5, q6, q7, q8⟩, fun f hf => ?_, b1, b2, b3, b4, b5, b6⟩
    rw [mg_i (show 64 + p ≠ 64 + q by omega), mg_i (show 64 + p ≠ 44 + q by omega), mg_k (by omega), mg_i (show (19 : Nat) ≠ 16 by omega)]; exact q9 f hf
set_option maxHeartbeats 1000000 in
theorem take_step {Y A P e : Nat} {σ0 τ0 σ τ : Mem} {d q c t : Nat} (hY : Y ≤ 200) (h : Tk Y A P e σ0 τ0 σ τ d) (hy0 : τ0 0 0 = nI Y) (hP : P ≤ 20) (hq : q < P) (he : e < 12) (hc1 : σ (44 + q) 6 = nI c) (hc : τ 16 q = nI c) (hcb : c < 2 ^ 31) (ht : t ≤ c) :
    ∃ σ2 τ2, bo (fX5_pay σ (44 + q) (nI e) (nI t)) (fun z => fX1_write z (nI Y) (nI q) (nI e) (nI t)) = some σ2 ∧ fX10_write (mset (mset τ 16 q (nI (c - t))) 19 (12 * q + e) (τ 19 (12 * q + e) + nI t)) (nI q) (nI e) (nI t) = some τ2 ∧ Tk Y A P e σ0 τ0 σ2 τ2 (d + t) ∧ (∀ p, p < 20 → p ≠ q → σ2 (44 + p) = σ (44 + p)) ∧ σ2 (44 + q) 6 = nI (c - t) ∧ ∀ k, k ≠ 6 → σ2 (44 + q) k = σ (44 + q) k := by
  obtain ⟨hu, hb, ⟨O, Z, ⟨o1, o2, o3⟩, ⟨z1, z2, z3⟩⟩, hX, hM, hM0, h4, h5, h6⟩ := h
  have hpay : fX5_pay σ (44 + q) (nI e) (nI t) = some (mset (mset σ (44 + q) 6 (nI (c - t))) (64 + q) e (σ (64 + q) e + nI t)) := by
    unfold fX5_pay
    simp only [bmE, inbN he (show 12 < 2 ^ 31 by omega), if_true, cN (show e < 2 ^ 31 by omega), hc1, pk_sub ht, rf_pu (show q < 20 by omega), mg_i (show 64 + q ≠ 44 + q by omega)]
  rw [hpay, boS]
  have hu' := pay_rpu hY hu (show q < 20 by omega) he hc hcb ht
  have hy : mset (mset τ 16 q (nI (c - t))) 19 (12 * q + e) (τ 19 (12 * q + e) + nI t) 0 0 = nI Y := by rw [mg_i (by omega), mg_i (by omega), hM0 0 (by omega) (by omega)]; exact hy0
  obtain ⟨σ2, τ2, O', Z', w1, w2, w3, w4, w5, w6, w7, w8⟩ := bk_step (σ := mset (mset σ (44 + q) 6 (nI (c - t))) (64 + q) e (σ (64 + q) e + nI t)) (O := O) (Z := Z) (nI q) (nI e) (nI t) hy (by rw [mg_i (by omega), mg_i (by omega), o1]) (by rw [mg_i (by omega), mg_i (by omega), o2]) o3 (by rw [mg_i (by omega), mg_i (by omega), z1]) (by rw [mg_i (by omega), mg_i (by omega), z2]) z3 (hb.cg (by rw [mset_ne (by omega), mset_ne (by omega)]) (by rw [mset_ne (by omega), mset_ne (by omega)]))
  have hn19 : ∀ x, x ≠ 12 * q + e → τ2 19 x = τ 19 x := fun x hx => by rw [w7 19 (by omega) (by omega), mg_k hx, mg_i (by omega)]
  refine ⟨σ2, τ2, w1, w2, ⟨?_, w5, ⟨O', Z', w3, w4⟩, fun i a b c => ?_, fun i a b c d => ?_, fun k a b => ?_, fun p f hp hf hfe => ?_, fun p hp1 hp2 => ?_, ?_⟩, fun p hp hpq => ?_, ?_, fun k hk => ?_⟩
  · exact hu'.cg (fun i hi => w6 (44 + i) (by omega) (by omega)) (fun i hi => w6 (64 + i) (by omega) (by omega)) (fun k h1 h2 => w7 k (by omega) (by omega)) (w8 13 (by omega) (by omega))
  · rw [w6 i a b, mset_ne (by omega), mset_ne (by omega)]; exact hX i a b c
  · rw [w7 i a d, mset_ne c, mset_ne b]; exact hM i a b c d
  · rw [w8 k a b, mg_i (by omega), mg_i (by omega)]; exact hM0 k a b
  · rw [hn19 _ (by omega)]; exact h4 p f hp hf hfe
  · rw [hn19 _ (by omega)]; exact h5 p hp1 hp2
  · have e1 : τ2 19 (12 * q + e) = τ 19 (12 * q + e) + nI t := by rw [w7 19 (by omega) (by omega), mg_e]
    rw [smI_upd (f := fun p => τ 19 (12 * p + e)) (g := fun p => τ2 19 (12 * p + e)) hq e1 (fun i hi hne => hn19 _ (by omega)), h6, ← nI_add]
    ac_rfl
  · rw [w6 (44 + p) (by omega) (by omega), mset_ne (by omega), mset_ne (by omega)]
  · rw [w6 (44 + q) (by omega) (by omega), mg_i (by omega), mg_e]
  · rw [w6 (44 + q) (by omega) (by omega), mg_i (by omega), mg_k hk]
theorem can_pos {σ : Mem} {i : Nat} {v y : Int32} (h : ¬ fX5_canPay σ i v y = 0) : ¬ σ i 6 ≤ 0 := by
  intro c; apply h; unfold fX5_canPay; rw [if_pos c]
theorem can_zero {σ : Mem} {i : Nat} {v y : Int32} (h : σ i 6 = 0) : fX5_canPay σ i v y = 0 := by
  unfold fX5_canPay; rw [if_pos (by rw [h]; decide)]
theorem can_less {σ σ' : Mem} {i : Nat} {v y : Int32} (h : ¬ fX5_canPay σ i v y = 0) (h1 : ¬ σ' i 6 ≤ 0) (h2 : ∀ k, k ≠ 6 → σ' i k = σ i k) : ¬ fX5_canPay σ' i v y = 0 := by
  have h3 := can_pos h
  unfold fX5_canPay fX5_isOpen fX5_serves at *
  rw [if_neg h3] at h
  rw [if_neg h1, h2 1 (by omega), h2 2 (by omega), h2 3 (by omega)]
  exact h
set_option maxHeartbeats 1000000 in
theorem take_loop {Y A P e w c : Nat} {σ0 τ0 : Mem} (hY : Y ≤ 200) (hA : A ≤ 10) (hP1 : P ≤ 20) (he : e < 12) (hw : w < 2 ^ 31) (hc : c ≤ w) (hy1 : σ0 0 9 = nI Y) (hy2 : τ0 0 0 = nI Y) (hp1 : σ0 9 1 = nI P) (hp2 : τ0 0 13 = nI P) : ∀ (n k : Nat) (σ τ : Mem) (l l' d : Nat), 20 - k < n → k ≤ 20 → Tk Y A P e σ0 τ0 σ τ d → l + d = w → l' + d = c → l' = min l (smN (fp σ (nI e) (nI Y)) P) → (l = 0 ∨ k + smN (np σ (nI e) (nI Y)) P ≤ 20) →
    ∃ σ' τ' l2, fX9_takeCoins_5 n σ (nI e) (nI w) (nI l) (nI k) = fX9_takeCoins_101 σ' (nI e) (nI w) (nI l2) ∧ fX10_taken_2 n τ (nI e) (nI c) (nI l') = fX10_taken_146 τ' (nI e) (nI c) ∧ l2 + c = w ∧ Tk Y A P e σ0 τ0 σ' τ' c := by
  intro n
  induction n with
  | zero => intro k σ τ l l' d h; omega
  | succ n ih =>
    intro k σ τ l l' d hn hk hT hl hl' hmin hcnt
    have hT0 := hT
    obtain ⟨hu, hb, -, hX, hM, hM0, -⟩ := hT
    have y1 : σ 0 9 = nI Y := by rw [hX 0 (by omega) (by omega) (by omega)]; exact hy1
    have y2 : τ 0 0 = nI Y := by rw [hM0 0 (by omega) (by omega)]; exact hy2
    have p1 : σ 9 1 = nI P := by rw [hX 9 (by omega) (by omega) (by omega)]; exact hp1
    have p2 : τ 0 13 = nI P := by rw [hM0 13 (by omega) (by omega)]; exact hp2
    have f1 : ((20 : Int32) ≤ nI k) = (20 ≤ k) := leN (a := 20) (by omega) (by omega)
    have f2 : (nI l ≤ (0 : Int32)) = (l ≤ 0) := leN (b := 0) (by omega) (by omega)
    have f3 : (nI l' ≤ (0 : Int32)) = (l' ≤ 0) := leN (b := 0) (by omega) (by omega)
    rw [fX9_takeCoins_5, fX10_taken_2]
    simp only [f1, f2, f3]
    by_cases c0 : l' = 0
    · subst c0
      rw [if_pos (show 0 ≤ 0 by omega)]
      have hd : d = c := by omega
      subst hd
      refine ⟨σ, τ, l, ?_, rfl, by omega, hT0⟩
      by_cases c1 : 20 ≤ k
      · rw [if_pos c1]
      rw [if_neg c1]
      by_cases c2 : l ≤ 0
      · rw [if_pos c2]
      rw [if_neg c2, y1, next_eq (nI e) (nI Y) p1 hP1, boS]
      have hF : smN (fp σ (nI e) (nI Y)) P = 0 := by omega
      have hb1 : bst σ (nI e) (nI Y) P = -1 := by
        rcases bst_or σ (nI e) (nI Y) P hP1 with ⟨h1, -⟩ | ⟨q, h1, h2, h3⟩
        · exact h1
        · exfalso
          have := smN_le (f := fp σ (nI e) (nI Y)) P h1
          obtain ⟨cc, hcc, e1, -⟩ := coin_bd hu hY (show q < 20 by omega)
          have h4 := can_pos h3
          have hcc2 : cc < 2 ^ 31 := by split at hcc <;> omega
          rw [e1, i0, leN hcc2 (by omega)] at h4
          unfold fp at this
          rw [if_neg h3, e1, cN hcc2] at this
          unfold fp at hF
          omega
      rw [hb1, if_pos rfl]; rfl
    · have hF : 0 < smN (fp σ (nI e) (nI Y)) P := by omega
      have hl0 : 0 < l := by omega
      rw [if_neg (show ¬ l' ≤ 0 by omega), mnext_eq (σ := σ) _ (nI e) (nI c) (nI l') hu hA y2 p2 hP1]
      rcases bst_or σ (nI e) (nI Y) P hP1 with ⟨h1, h2⟩ | ⟨q, h1, h2, h3⟩
      · exfalso
        have := smN_zero (f := fp σ (nI e) (nI Y)) P (fun i hi => by unfold fp; rw [if_pos (h2 i hi)])
        omega
      obtain ⟨cc, hcc, e1, e2⟩ := coin_bd hu hY (show q < 20 by omega)
      have hcc2 : cc < 2 ^ 31 := by split at hcc <;> omega
      have h4 := can_pos h3
      rw [e1, i0, leN hcc2 (by omega)] at h4
      have hfq : fp σ (nI e) (nI Y) q = cc := by unfold fp; rw [if_neg h3, e1, cN hcc2]
      have hnq : np σ (nI e) (nI Y) q = 1 := by unfold np; rw [if_neg h3]
      have hle := smN_le (f := fp σ (nI e) (nI Y)) P h1
      rw [hfq] at hle
      have hnle := smN_le (f := np σ (nI e) (nI Y)) P h1
      rw [hnq] at hnle
      rw [if_neg (show ¬ 20 ≤ k by omega), if_neg (show ¬ l ≤ 0 by omega), y1, next_eq (nI e) (nI Y) p1 hP1, boS, h2, if_neg (nI_m1 (by omega)), if_pos (inbN (show q < 20 by omega) (by omega))]
      -- the part
      obtain ⟨t, ht⟩ : ∃ t, t = min cc l := ⟨_, rfl⟩
      have ex : (if σ (rfX 10 (nI q).toNatClampNeg) 6 < nI l then σ (rfX 10 (nI q).toNatClampNeg) 6 else nI l) = nI t := by
        rw [cN (by omega), rf10, e1]
        have : (nI cc < nI l) = (cc < l) := ltN hcc2 (by omega)
        simp only [this]
        by_cases c5 : cc < l
        · rw [if_pos c5, ht, Nat.min_eq_left (by omega)]
        · rw [if_neg c5, ht, Nat.min_eq_right (by omega)]
      rw [ex, biE, if_pos (inbN (show q < 20 by omega) (by omega)), cN (by omega), rf10]
      obtain ⟨σ2, τ2, g1, g2, g3, g4, g5, g6⟩ := take_step (t := t) hY hT0 hy2 hP1 h1 he e1 e2 hcc2 (by omega)
      -- the reference's part
      have em : fX10_taken_76 (fun σ_ v1_ v2_ v3_ => fX10_taken_2 n σ_ v1_ v2_ v3_) τ (nI e) (nI c) (nI l') (nI q) = fX10_taken_2 n τ2 (nI e) (nI c) (nI (l' - t)) := by
        have e98 : fX10_taken_98 (fun σ_ v1_ v2_ v3_ => fX10_taken_2 n σ_ v1_ v2_ v3_) τ (nI e) (nI c) (nI l') (nI q) (nI t) = fX10_taken_2 n τ2 (nI e) (nI c) (nI (l' - t)) := by
          unfold fX10_taken_98
          have e5 : (12 : Int32) * nI q + nI e = nI (12 * q + e) := by rw [i12, pk_mul, nI_add]
          simp only [inbN (show q < 20 by omega) (show 20 < 2 ^ 31 by omega), if_true, cN (show q < 2 ^ 31 by omega), bmE, e5, inbN (show 12 * q + e < 240 by omega) (show 240 < 2 ^ 31 by omega), cN (show 12 * q + e < 2 ^ 31 by omega), e2, pk_sub (show t ≤ cc by omega), mg_i (show (19 : Nat) ≠ 16 by omega), g2, boS, biE, pk_sub (show t ≤ l' by omega)]
        unfold fX10_taken_76
        rw [if_pos (inbN (show q < 20 by omega) (by omega)), cN (by omega), e2]
        have : (nI l' ≤ nI cc) = (l' ≤ cc) := leN (by omega) hcc2
        simp only [this]
        by_cases c5 : l' ≤ cc
        · rw [if_pos c5]
          have : l' = t := by omega
          rw [← this]; rw [← this] at e98; exact e98
        · rw [if_neg c5, if_pos (inbN (show q < 20 by omega) (by omega))]
          have : cc = t := by omega
          rw [this]; exact e98
      rw [em]
      -- the class's step
      have ec : bo (fX5_pay σ (44 + q) (nI e) (nI t)) (fun z2 => bo (fX1_write z2 (z2 0 9) (nI q) (nI e) (nI t)) (fun z3 => bi (nI l - nI t) (fun x2 => fX9_takeCoins_5 n z3 (nI e) (nI w) x2 (nI k + 1)))) = fX9_takeCoins_5 n σ2 (nI e) (nI w) (nI (l - t)) (nI (k + 1)) := by
        have hpay : ∃ z, fX5_pay σ (44 + q) (nI e) (nI t) = some z ∧ z 0 9 = nI Y := by
          unfold fX5_pay
          simp only [bmE, inbN he (show 12 < 2 ^ 31 by omega), if_true, cN (show e < 2 ^ 31 by omega), rf_pu (show q < 20 by omega)]
          exact ⟨_, rfl, by rw [mg_i (by omega), mg_i (by omega), y1]⟩
        obtain ⟨z, z1, z2⟩ := hpay
        rw [z1, boS] at g1
        rw [z1, boS, z2, g1, boS, biE, pk_sub (by omega), nIs]
      rw [ec]
      have hfp : smN (fp σ2 (nI e) (nI Y)) P + t = smN (fp σ (nI e) (nI Y)) P := by
        refine smN_dec h1 ?_ (fun i hi hne => ?_)
        · rw [hfq]
          unfold fp
          by_cases c6 : cc = t
          · rw [if_pos (can_zero (by rw [g5, c6, Nat.sub_self]; rfl))]; omega
          · rw [if_neg (can_less h3 (by rw [g5, i0, leN (by omega) (by omega)]; omega) g6), g5, cN (by omega)]; omega
        · unfold fp; rw [can_congr _ _ (g4 i (by omega) hne), g4 i (by omega) hne]
      refine ih (k + 1) σ2 τ2 (l - t) (l' - t) (d + t) (by omega) (by omega) g3 (by omega) (by omega) (by omega) ?_
      by_cases c6 : cc = t
      · have hnp : smN (np σ2 (nI e) (nI Y)) P + 1 = smN (np σ (nI e) (nI Y)) P := by
          refine smN_dec h1 ?_ (fun i hi hne => ?_)
          · rw [hnq]; unfold np; rw [if_pos (can_zero (by rw [g5, c6, Nat.sub_self]; rfl))]
          · unfold np; rw [can_congr _ _ (g4 i (by omega) hne)]
        omega
      · exact Or.inl (by omega)
