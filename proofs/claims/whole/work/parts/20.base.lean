-- ===== numbers =====
theorem rf0_0 : rfX 3 = fun k => 16 + k := rfl
theorem rf3 (k : Nat) : rfX 3 k = 16 + k := rfl
theorem rf4 (k : Nat) : rfX 4 k = 26 + k := rfl
theorem rf5 (k : Nat) : rfX 5 k = 36 + k := rfl
theorem rf10 (k : Nat) : rfX 10 k = 44 + k := rfl
theorem rf1 (k : Nat) : rfX 1 k = 3 := rfl
theorem rf2 (k : Nat) : rfX 2 k = 4 := rfl
theorem rf_sh {s : Nat} (h : s < 4) : rfX (36 + s) 0 = 40 + s := (by decide : ∀ s, s < 4 → rfX (36 + s) 0 = 40 + s) s h
theorem rf_pu {p : Nat} (h : p < 20) : rfX (44 + p) 0 = 64 + p := (by decide : ∀ p, p < 20 → rfX (44 + p) 0 = 64 + p) p h
theorem mg (σ : Mem) (i k : Nat) (v : Int32) (j l : Nat) : mset σ i k v j l = if j = i then (if l = k then v else σ j l) else σ j l := by
  by_cases h : j = i
  · subst h; simp [mset, va_up, upd]
  · simp [mset, va_up, h]
theorem mg_i {σ : Mem} {i k : Nat} {v : Int32} {j l : Nat} (h : j ≠ i) : mset σ i k v j l = σ j l := by rw [mg, if_neg h]
theorem mg_k {σ : Mem} {i k : Nat} {v : Int32} {l : Nat} (h : l ≠ k) : mset σ i k v i l = σ i l := by rw [mg, if_pos rfl, if_neg h]
theorem mg_e {σ : Mem} {i k : Nat} {v : Int32} : mset σ i k v i k = v := by rw [mg, if_pos rfl, if_pos rfl]
theorem cN {k : Nat} (h : k < 2 ^ 31) : (nI k).toNatClampNeg = k := nI_clamp h
theorem inbN {k n : Nat} (h : k < n) (hn : n < 2 ^ 31) : inb (nI k) n = true := by
  have h1 : vp_in (nI k) n := vp_in_nI h hn
  exact decide_eq_true h1
theorem inbO {k n : Nat} (h : n ≤ k) (hk : k < 2 ^ 31) : inb (nI k) n = false := by
  apply decide_eq_false
  intro h2
  apply h2
  right
  rw [cN hk]; exact h
theorem leN {a b : Nat} (ha : a < 2 ^ 31) (hb : b < 2 ^ 31) : (nI a ≤ nI b) = (a ≤ b) := propext (nI_leI ha hb)
theorem ltN {a b : Nat} (ha : a < 2 ^ 31) (hb : b < 2 ^ 31) : (nI a < nI b) = (a < b) := propext (nI_ltI ha hb)
theorem eqN {a b : Nat} (ha : a < 2 ^ 31) (hb : b < 2 ^ 31) : (nI a = nI b) = (a = b) := propext (nI_eq ha hb)
theorem i0 : (0 : Int32) = nI 0 := rfl
theorem i1 : (1 : Int32) = nI 1 := rfl
theorem i2 : (2 : Int32) = nI 2 := rfl
theorem i3 : (3 : Int32) = nI 3 := rfl
theorem i4 : (4 : Int32) = nI 4 := rfl
theorem i5 : (5 : Int32) = nI 5 := rfl
theorem i6 : (6 : Int32) = nI 6 := rfl
theorem i7 : (7 : Int32) = nI 7 := rfl
theorem i9 : (9 : Int32) = nI 9 := rfl
theorem i10 : (10 : Int32) = nI 10 := rfl
theorem i12 : (12 : Int32) = nI 12 := rfl
theorem i20 : (20 : Int32) = nI 20 := rfl
theorem i48 : (48 : Int32) = nI 48 := rfl
theorem i50 : (50 : Int32) = nI 50 := rfl
theorem i100 : (100 : Int32) = nI 100 := rfl
theorem i200 : (200 : Int32) = nI 200 := rfl
theorem i1000 : (1000 : Int32) = nI 1000 := rfl
theorem i9999 : (9999 : Int32) = nI 9999 := rfl
theorem i100000 : (100000 : Int32) = nI 100000 := rfl
theorem nIs (k : Nat) : nI k + 1 = nI (k + 1) := (nI_succ k).symm
/-- a value between two numbers -/
theorem rng (v : Int32) (a b : Nat) (hb : b < 2 ^ 31) (ha : a ≤ b) : ((v < nI a ∨ nI b < v) ∧ ∀ k, a ≤ k → k ≤ b → v ≠ nI k) ∨ ∃ k, a ≤ k ∧ k ≤ b ∧ v = nI k := by
  by_cases h0 : v < nI a
  · left
    refine ⟨Or.inl h0, fun k h1 h2 e => ?_⟩
    rw [e, ltN (by omega) (by omega)] at h0; omega
  · by_cases h1 : nI b < v
    · left
      refine ⟨Or.inr h1, fun k h2 h3 e => ?_⟩
      rw [e, ltN (by omega) (by omega)] at h1; omega
    · right
      have h2 : ¬ v < 0 := fun h => h0 (by
        have : (0 : Int32) ≤ nI a := nI_pos' (by omega)
        exact Int32.lt_of_lt_of_le h this)
      obtain ⟨k, hk, rfl⟩ := nI_of h2
      rw [ltN (by omega) (by omega)] at h0 h1
      exact ⟨k, by omega, by omega, rfl⟩
theorem isW {σ : Mem} {v a b : Int32} : fX9_isWithin σ v a b = if v < a ∨ b < v then 0 else 1 := by
  unfold fX9_isWithin
  by_cases h : v < a
  · simp [h]
  · by_cases h2 : b < v <;> simp [h, h2]
theorem isI {σ : Mem} {v a b : Int32} : fX10_isIn σ v a b = if v < a ∨ b < v then 0 else 1 := by
  unfold fX10_isIn
  by_cases h : v < a
  · simp [h]
  · by_cases h2 : b < v <;> simp [h, h2]
/-- between 0 and n - 1 -/
theorem rng1 (v : Int32) (n : Nat) (hn : n < 2 ^ 30) : ((v < 0 ∨ nI n - 1 < v) ∧ ∀ k, k < n → v ≠ nI k) ∨ ∃ k, k < n ∧ v = nI k ∧ ¬ (v < 0 ∨ nI n - 1 < v) := by
  cases n with
  | zero =>
    left
    refine ⟨?_, fun k h => by omega⟩
    by_cases h : v < 0
    · exact Or.inl h
    · right
      obtain ⟨k, hk, rfl⟩ := nI_of h
      exact Int32.lt_of_lt_of_le (by decide : (nI 0 - 1 : Int32) < 0) (nI_pos' hk)
  | succ n =>
    rw [nI_pred]
    rcases rng v 0 n (by omega) (by omega) with ⟨h, h2⟩ | ⟨k, h1, h2, rfl⟩
    · exact Or.inl ⟨h, fun k hk => h2 k (by omega) (by omega)⟩
    · right
      refine ⟨k, by omega, rfl, ?_⟩
      rintro (h | h)
      · rw [i0, ltN (by omega) (by omega)] at h; omega
      · rw [ltN (by omega) (by omega)] at h; omega
/-- a loop that goes up, with an invariant -/
theorem lp_up {S β : Type} (F : Nat → S → Int32 → β) (K : S → β) (I : Nat → S → Prop) (N : Nat)
    (hx : ∀ n s, I N s → F (n + 1) s (nI N) = K s)
    (hs : ∀ n k s, k < N → I k s → ∃ s', I (k + 1) s' ∧ F (n + 1) s (nI k) = F n s' (nI (k + 1))) :
    ∀ (n k : Nat) (s : S), k ≤ N → N - k < n → I k s → ∃ s', I N s' ∧ F n s (nI k) = K s' := by
  intro n
  induction n with
  | zero => intro k s _ h; omega
  | succ n ih =>
    intro k s hk hn hI
    by_cases h : k = N
    · subst h; exact ⟨s, hI, hx n s hI⟩
    · obtain ⟨s', h1, h2⟩ := hs n k s (by omega) hI
      rw [h2]
      exact ih (k + 1) s' (by omega) (by omega) h1
/-- sums -/
def smI (f : Nat → Int32) : Nat → Int32
  | 0 => 0
  | n + 1 => smI f n + f n
theorem smI_congr {f g : Nat → Int32} : ∀ n, (∀ i, i < n → f i = g i) → smI f n = smI g n
  | 0, _ => rfl
  | n + 1, h => by rw [smI, smI, smI_congr n (fun i hi => h i (by omega)), h n (by omega)]
theorem smI_add (f g : Nat → Int32) : ∀ n, smI (fun i => f i + g i) n = smI f n + smI g n
  | 0 => rfl
  | n + 1 => by
    simp only [smI, smI_add f g n]
    ac_rfl
/-- one term more -/
theorem smI_upd {f g : Nat → Int32} {n p : Nat} {d : Int32} (hp : p < n) (h1 : g p = f p + d) (h2 : ∀ i, i < n → i ≠ p → g i = f i) : smI g n = smI f n + d := by
  induction n with
  | zero => omega
  | succ n ih =>
    simp only [smI]
    by_cases h : p = n
    · subst h
      rw [smI_congr p (fun i hi => h2 i (by omega) (by omega)), h1]; ac_rfl
    · rw [ih (by omega) (fun i hi hne => h2 i (by omega) hne), h2 n (by omega) (fun e => h e.symm)]; ac_rfl
theorem smI_zero : ∀ n, smI (fun _ => 0) n = 0
  | 0 => rfl
  | n + 1 => by rw [smI, smI_zero n]; rfl
