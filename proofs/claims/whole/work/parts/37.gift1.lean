theorem sgn_eq : ∀ b, b < 256 → (nI b).toInt8.toInt32 = if b < 128 then nI b else nI b - 256 := by decide +kernel
theorem sgn_neg : ∀ b, b < 256 → ¬ b < 128 → nI b - 256 < (0 : Int32) := by decide +kernel
/-- a byte is a letter, as the class and as the reference read it -/
theorem let_eq {b c : Nat} (hb : b < 256) (hc : c < 128) : ((nI b).toInt8.toInt32 = nI c) = (b = c) := by
  rw [sgn_eq b hb]
  by_cases h : b < 128
  · rw [if_pos h]; exact eqN (by omega) (by omega)
  · rw [if_neg h]
    apply propext
    constructor
    · intro e
      have := sgn_neg b hb h
      rw [e] at this
      exact absurd this (by rw [i0, ltN (by omega) (by omega)]; omega)
    · intro e; omega
/-- the text of both sides, and where the reading stands -/
def Tx (T : Nat) (σ τ : Mem) : Prop := σ 6 1 = nI T ∧ τ 0 12 = nI T ∧ Rtp T σ τ ∧ T ≤ 48
def Fr (σ0 τ0 σ τ : Mem) : Prop := (∀ i, i ≠ 8 → σ i = σ0 i) ∧ (∀ i, i ≠ 0 → τ i = τ0 i) ∧ ∀ k, k < 32 → τ 0 k = τ0 0 k
def Wrd (T : Nat) (σ τ : Mem) (p q : Nat) : Prop := p ≤ q ∧ q ≤ T ∧ σ 8 1 = nI p ∧ σ 8 2 = nI q ∧ τ 0 32 = nI q ∧ τ 0 33 = nI p ∧ τ 0 34 = nI (q - p) ∧ (p = q → p = T)
theorem Tx.fr {T : Nat} {σ0 τ0 σ τ : Mem} (h : Tx T σ0 τ0) (hf : Fr σ0 τ0 σ τ) : Tx T σ τ := by
  obtain ⟨h1, h2, h3, h4⟩ := h
  obtain ⟨f1, f2, f3⟩ := hf
  refine ⟨by rw [f1 6 (by omega)]; exact h1, by rw [f3 12 (by omega)]; exact h2, h3.cg (f1 7 (by omega)) (f2 10 (by omega)), h4⟩
theorem Fr.tr {a b c d e f : Mem} (h : Fr a b c d) (h2 : Fr c d e f) : Fr a b e f := ⟨fun i hi => by rw [h2.1 i hi]; exact h.1 i hi, fun i hi => by rw [h2.2.1 i hi]; exact h.2.1 i hi, fun k hk => by rw [h2.2.2 k hk]; exact h.2.2 k hk⟩
theorem Fr.set {a b σ τ : Mem} {k l : Nat} {v w : Int32} (h : Fr a b σ τ) (hl : 32 ≤ l) : Fr a b (mset σ 8 k v) (mset τ 0 l w) := ⟨fun i hi => by rw [mset_ne hi]; exact h.1 i hi, fun i hi => by rw [mset_ne hi]; exact h.2.1 i hi, fun k hk => by rw [mg_k (by omega)]; exact h.2.2 k hk⟩
theorem Fr.setX {a b σ τ : Mem} {k : Nat} {v : Int32} (h : Fr a b σ τ) : Fr a b (mset σ 8 k v) τ := ⟨fun i hi => by rw [mset_ne hi]; exact h.1 i hi, h.2.1, h.2.2⟩
theorem Fr.setM {a b σ τ : Mem} {l : Nat} {w : Int32} (h : Fr a b σ τ) (hl : 32 ≤ l) : Fr a b σ (mset τ 0 l w) := ⟨h.1, fun i hi => by rw [mset_ne hi]; exact h.2.1 i hi, fun k hk => by rw [mg_k (by omega)]; exact h.2.2 k hk⟩
theorem Fr.rfl' {a b : Mem} : Fr a b a b := ⟨fun _ _ => rfl, fun _ _ => rfl, fun _ _ => rfl⟩
theorem Wrd.setX {T p q k : Nat} {v : Int32} {σ τ : Mem} (h : Wrd T σ τ p q) (hk : 3 ≤ k) : Wrd T (mset σ 8 k v) τ p q := by
  obtain ⟨h1, h2, h3, h4, h5, h6, h7, h8⟩ := h
  exact ⟨h1, h2, by rw [mg_k (by omega)]; exact h3, by rw [mg_k (by omega)]; exact h4, h5, h6, h7, h8⟩
theorem Wrd.setM {T p q l : Nat} {w : Int32} {σ τ : Mem} (h : Wrd T σ τ p q) (hl : 35 ≤ l) : Wrd T σ (mset τ 0 l w) p q := by
  obtain ⟨h1, h2, h3, h4, h5, h6, h7, h8⟩ := h
  exact ⟨h1, h2, h3, h4, by rw [mg_k (by omega)]; exact h5, by rw [mg_k (by omega)]; exact h6, by rw [mg_k (by omega)]; exact h7, h8⟩
set_option maxHeartbeats 1000000 in
theorem w60 {T : Nat} : ∀ (n p q : Nat) (σ τ : Mem), T - q < n → q ≤ T → p ≤ q → Tx T σ τ → σ 8 2 = nI q → τ 0 32 = nI q → τ 0 33 = nI p → ∃ σ' τ' q', q ≤ q' ∧ q' ≤ T ∧ fX4_toNextWord_60 n σ = some σ' ∧ fX10_next_46 n τ = some τ' ∧ σ' 8 2 = nI q' ∧ τ' 0 32 = nI q' ∧ τ' 0 34 = nI (q' - p) ∧ Fr σ τ σ' τ' ∧ (∀ k, k ≠ 2 → σ' 8 k = σ 8 k) ∧ (∀ k, k ≠ 32 → k ≠ 34 → τ' 0 k = τ 0 k) ∧ (q' = q → q = T ∨ τ 10 q = 32) := by
  intro n
  induction n with
  | zero => intro p q σ τ h; omega
  | succ n ih =>
    intro p q σ τ hn hq hp ht e1 e2 e3
    have ht0 := ht
    obtain ⟨t1, t2, t3, t4⟩ := ht
    rw [fX4_toNextWord_60, fX10_next_46, t1, t2, e1, e2]
    have fk : (nI T ≤ nI q) = (T ≤ q) := leN (by omega) (by omega)
    have h84 : fX10_next_84 τ = some (mset τ 0 34 (nI (q - p))) := by unfold fX10_next_84; rw [bmE, e2, e3, pk_sub hp]
    have hend : Fr σ τ σ (mset τ 0 34 (nI (q - p))) := Fr.rfl'.setM (by omega)
    by_cases c : T ≤ q
    · simp only [fk, c, if_true, h84]
      exact ⟨σ, _, q, by omega, by omega, rfl, rfl, e1, by rw [mg_k (by omega)]; exact e2, mg_e, hend, fun _ _ => rfl, fun k _ hk => mg_k hk, fun _ => Or.inl (by omega)⟩
    obtain ⟨s1, b, hb, s2⟩ := t3 q (by omega)
    have f32 : (σ 7 q = 32) = (b = 32) := by rw [s1, s2]; exact let_eq (c := 32) hb (by omega)
    have f32' : (nI b = (32 : Int32)) = (b = 32) := eqN (b := 32) (by omega) (by omega)
    simp only [fk, c, if_false, inbN (show q < 48 by omega) (show 48 < 2 ^ 31 by omega), if_true, cN (show q < 2 ^ 31 by omega), f32, s2, f32', bmE, nIs, h84]
    by_cases d : b = 32
    · simp only [d, if_true]
      exact ⟨σ, _, q, by omega, by omega, rfl, rfl, e1, by rw [mg_k (by omega)]; exact e2, mg_e, hend, fun _ _ => rfl, fun k _ hk => mg_k hk, fun _ => Or.inr (by first | trivial | rfl)⟩
    · simp only [d, if_false]
      obtain ⟨σ', τ', q', g1, g2, g3, g4, g5, g6, g7, g8, g9, g10, g11⟩ := ih p (q + 1) (mset σ 8 2 (nI (q + 1))) (mset τ 0 32 (nI (q + 1))) (by omega) (by omega) (by omega) (ht0.fr (Fr.rfl'.set (by omega))) mg_e mg_e (by rw [mg_k (by omega)]; exact e3)
      exact ⟨σ', τ', q', by omega, g2, g3, g4, g5, g6, g7, (Fr.rfl'.set (by omega)).tr g8, fun k hk => by rw [g9 k hk, mg_k hk], fun k h1 h2 => by rw [g10 k h1 h2, mg_k h1], fun e => by omega⟩
theorem w8 {T : Nat} : ∀ (n p : Nat) (σ τ : Mem), T - p < n → p ≤ T → Tx T σ τ → σ 8 1 = nI p → τ 0 32 = nI p → ∃ σ' τ' p' q', fX4_toNextWord_8 n σ = some σ' ∧ fX10_next_0 n τ = some τ' ∧ Wrd T σ' τ' p' q' ∧ Fr σ τ σ' τ' ∧ (∀ k, k ≠ 1 → k ≠ 2 → σ' 8 k = σ 8 k) ∧ (∀ k, k ≠ 32 → k ≠ 33 → k ≠ 34 → τ' 0 k = τ 0 k) := by
  intro n
  induction n with
  | zero => intro p σ τ h; omega
  | succ n ih =>
    intro p σ τ hn hp ht e1 e2
    have ht0 := ht
    obtain ⟨t1, t2, t3, t4⟩ := ht
    rw [fX4_toNextWord_8, fX10_next_0, t1, t2, e1, e2]
    have fk : (nI T ≤ nI p) = (T ≤ p) := leN (by omega) (by omega)
    have hgo : (p < T → ¬ τ 10 p = 32) → ∃ σ' τ' p' q', fX4_toNextWord_60 300 (mset σ 8 2 (nI p)) = some σ' ∧ fX10_next_46 300 (mset τ 0 33 (nI p)) = some τ' ∧ Wrd T σ' τ' p' q' ∧ Fr σ τ σ' τ' ∧ (∀ k, k ≠ 1 → k ≠ 2 → σ' 8 k = σ 8 k) ∧ (∀ k, k ≠ 32 → k ≠ 33 → k ≠ 34 → τ' 0 k = τ 0 k) := by
      intro hsp
      obtain ⟨σ', τ', q', g1, g2, g3, g4, g5, g6, g7, g8, g9, g10, g11⟩ := w60 300 p p (mset σ 8 2 (nI p)) (mset τ 0 33 (nI p)) (by omega) hp (by omega) (ht0.fr (Fr.rfl'.set (by omega))) mg_e (by rw [mg_k (by omega)]; exact e2) mg_e
      refine ⟨σ', τ', p, q', g3, g4, ⟨g1, g2, ?_, g5, g6, ?_, g7, fun e => ?_⟩, (Fr.rfl'.set (by omega)).tr g8, fun k h1 h2 => by rw [g9 k h2, mg_k h2], fun k h1 h2 h3 => by rw [g10 k h1 h3, mg_k h2]⟩
      · rw [g9 1 (by omega), mg_k (by omega)]; exact e1
      · rw [g10 33 (by omega) (by omega)]; exact mg_e
      · rcases g11 e.symm with h | h
        · exact h
        · rw [mset_ne (by omega)] at h
          exact Nat.le_antisymm hp (Nat.not_lt.mp (fun hlt => hsp hlt h))
    by_cases c : T ≤ p
    · simp only [fk, c, if_true, bmE]
      exact hgo (fun h => by omega)
    obtain ⟨s1, b, hb, s2⟩ := t3 p (by omega)
    have f32 : (σ 7 p = 32) = (b = 32) := by rw [s1, s2]; exact let_eq (c := 32) hb (by omega)
    have f32' : (nI b = (32 : Int32)) = (b = 32) := eqN (b := 32) (by omega) (by omega)
    simp only [fk, c, if_false, inbN (show p < 48 by omega) (show 48 < 2 ^ 31 by omega), if_true, cN (show p < 2 ^ 31 by omega), f32, s2, f32', bmE, nIs]
    by_cases d : b = 32
    · simp only [d, if_true]
      obtain ⟨σ', τ', p', q', g1, g2, g3, g4, g5, g6⟩ := ih (p + 1) (mset σ 8 1 (nI (p + 1))) (mset τ 0 32 (nI (p + 1))) (by omega) (by omega) (ht0.fr (Fr.rfl'.set (by omega))) mg_e mg_e
      exact ⟨σ', τ', p', q', g1, g2, g3, (Fr.rfl'.set (by omega)).tr g4, fun k h1 h2 => by rw [g5 k h1 h2, mg_k h1], fun k h1 h2 h3 => by rw [g6 k h1 h2 h3, mg_k h1]⟩
    · simp only [d, if_false]
      exact hgo (fun _ => by rw [s2, f32']; exact d)
/-- the next word -/
theorem next_both {T q : Nat} {σ τ : Mem} (ht : Tx T σ τ) (hq : q ≤ T) (e1 : σ 8 2 = nI q) (e2 : τ 0 32 = nI q) : ∃ σ' τ' p' q', fX4_toNextWord σ = some σ' ∧ fX10_next τ = some τ' ∧ Wrd T σ' τ' p' q' ∧ Fr σ τ σ' τ' ∧ (∀ k, k ≠ 1 → k ≠ 2 → σ' 8 k = σ 8 k) ∧ (∀ k, k ≠ 32 → k ≠ 33 → k ≠ 34 → τ' 0 k = τ 0 k) := by
  unfold fX4_toNextWord fX10_next
  rw [bmE, e1]
  have hT := ht.2.2.2
  obtain ⟨σ', τ', p', q', g1, g2, g3, g4, g5, g6⟩ := w8 300 q (mset σ 8 1 (nI q)) τ (by omega) hq (ht.fr Fr.rfl'.setX) mg_e e2
  exact ⟨σ', τ', p', q', g1, g2, g3, Fr.rfl'.setX.tr g4, fun k h1 h2 => by rw [g5 k h1 h2, mg_k h1], g6⟩
set_option maxHeartbeats 1000000 in
theorem num_loop {T p q : Nat} {σ τ : Mem} (ht : Tx T σ τ) (hw : Wrd T σ τ p q) (hpq : p < q) : ∀ (n k N : Nat), q - k < n → p ≤ k → k ≤ q → (fX4_number_20 n σ (nI (min N 10000)) (nI k) = some (-1) ∧ fX10_number_7 n τ (nI (min N 100000)) (nI k) = some (-1)) ∨ ∃ M, fX4_number_20 n σ (nI (min N 10000)) (nI k) = some (nI (min M 10000)) ∧ fX10_number_7 n τ (nI (min N 100000)) (nI k) = some (nI (min M 100000)) := by
  obtain ⟨t1, t2, t3, t4⟩ := ht
  obtain ⟨w1, w2, w3, w4, w5, w6, w7, w8⟩ := hw
  intro n
  induction n with
  | zero => intro k N h; omega
  | succ n ih =>
    intro k N hn hk1 hk2
    rw [fX4_number_20, fX10_number_7, w4, w6, w7, nI_add, show p + (q - p) = q by omega]
    have fk : (nI q ≤ nI k) = (q ≤ k) := leN (by omega) (by omega)
    by_cases c : q ≤ k
    · right
      unfold fX10_number_72
      have f0 : (nI (q - p) = (0 : Int32)) = False := by rw [i0, eqN (by omega) (by omega)]; exact eq_false (by omega)
      simp only [fk, c, if_true, w7, f0, if_false]
      exact ⟨N, rfl, rfl⟩
    obtain ⟨s1, b, hb, s2⟩ := t3 k (by omega)
    have f1 : (fX9_isWithin σ (σ 7 k - 48) 0 9 = 0) = ¬ (48 ≤ b ∧ b ≤ 57) := by
      rw [s1, s2, isW]
      have hh : ∀ b, b < 256 → (((nI b).toInt8.toInt32 - 48 < 0 ∨ (9 : Int32) < (nI b).toInt8.toInt32 - 48) ↔ ¬ (48 ≤ b ∧ b ≤ 57)) := by decide +kernel
      have hh2 := hh b hb
      by_cases c2 : 48 ≤ b ∧ b ≤ 57
      · rw [if_neg (fun h => hh2.mp h c2)]; exact propext ⟨fun h => absurd h (by decide), fun h => absurd c2 h⟩
      · rw [if_pos (hh2.mpr c2)]; exact propext ⟨fun _ => c2, fun _ => rfl⟩
    have f2 : (fX10_isIn τ (nI b) 48 57 = 0) = ¬ (48 ≤ b ∧ b ≤ 57) := by
      rw [isI]
      have g1 : (nI b < (48 : Int32)) = (b < 48) := ltN (b := 48) (by omega) (by omega)
      have g2 : ((57 : Int32) < nI b) = (57 < b) := ltN (a := 57) (by omega) (by omega)
      simp only [g1, g2]
      by_cases c2 : 48 ≤ b ∧ b ≤ 57
      · rw [if_neg (by omega)]; exact propext ⟨fun h => absurd h (by decide), fun h => absurd c2 h⟩
      · rw [if_pos (by omega)]; exact propext ⟨fun _ => c2, fun _ => rfl⟩
    simp only [fk, c, if_false, inbN (show k < 48 by omega) (show 48 < 2 ^ 31 by omega), if_true, cN (show k < 2 ^ 31 by omega), biE, nIs, s2, f1, f2]
    by_cases c2 : 48 ≤ b ∧ b ≤ 57
    · have g1 : σ 7 k - 48 = nI (b - 48) := by
        rw [s1, s2, sgn_eq b hb, if_pos (by omega)]; exact pk_sub (b := 48) (by omega)
      have g2 : (10 : Int32) * nI (min N 10000) + nI (b - 48) = nI (10 * min N 10000 + (b - 48)) := by rw [i10, pk_mul, nI_add]
      have g3 : (10 : Int32) * nI (min N 100000) + nI b - 48 = nI (10 * min N 100000 + (b - 48)) := by
        rw [i10, pk_mul, nI_add, show 10 * min N 100000 + (b - 48) = 10 * min N 100000 + b - 48 by omega]; exact pk_sub (b := 48) (by omega)
      have g4 : ((10000 : Int32) < nI (10 * min N 10000 + (b - 48))) = (10000 < 10 * min N 10000 + (b - 48)) := ltN (a := 10000) (by omega) (by omega)
      have g5 : (nI (10 * min N 100000 + (b - 48)) ≤ (100000 : Int32)) = (10 * min N 100000 + (b - 48) ≤ 100000) := leN (b := 100000) (by omega) (by omega)
      have h1 : (if 10000 < 10 * min N 10000 + (b - 48) then (10000 : Int32) else nI (10 * min N 10000 + (b - 48))) = nI (min (10 * N + (b - 48)) 10000) := by
        by_cases d : 10000 < 10 * min N 10000 + (b - 48)
        · rw [if_pos d, Nat.min_eq_right (by omega)]; rfl
        · rw [if_neg d, show min (10 * N + (b - 48)) 10000 = 10 * min N 10000 + (b - 48) by omega]
      have h2 : (if 10 * min N 100000 + (b - 48) ≤ 100000 then fX10_number_7 n τ (nI (10 * min N 100000 + (b - 48))) (nI (k + 1)) else fX10_number_7 n τ 100000 (nI (k + 1))) = fX10_number_7 n τ (nI (min (10 * N + (b - 48)) 100000)) (nI (k + 1)) := by
        by_cases d : 10 * min N 100000 + (b - 48) ≤ 100000
        · rw [if_pos d, show min (10 * N + (b - 48)) 100000 = 10 * min N 100000 + (b - 48) by omega]
        · rw [if_neg d, Nat.min_eq_right (by omega)]; rfl
      simp only [c2, not_true, if_false, g1, g2, g3, g4, g5, h1, h2]
      exact ih (k + 1) (10 * N + (b - 48)) (by omega) (by omega) (by omega)
    · left
      simp only [c2, not_false_iff, if_true]
      exact ⟨trivial, trivial⟩
theorem num_both {T p q : Nat} {σ τ : Mem} (ht : Tx T σ τ) (hw : Wrd T σ τ p q) : ∃ a b, fX4_number σ = some a ∧ fX10_number τ = some b ∧ ((a = -1 ∧ b = -1) ∨ ∃ M, a = nI (min M 10000) ∧ b = nI (min M 100000)) := by
  have hw0 := hw
  obtain ⟨w1, w2, w3, w4, w5, w6, w7, w8⟩ := hw
  have hT := ht.2.2.2
  unfold fX4_number fX10_number
  have f1 : (nI p = nI q) = (p = q) := eqN (by omega) (by omega)
  rw [w3, w4, w6]
  simp only [f1, biE]
  by_cases c : p = q
  · rw [if_pos c]
    refine ⟨-1, -1, rfl, ?_, Or.inl ⟨rfl, rfl⟩⟩
    rw [fX10_number_7, w6, w7, nI_add, show p + (q - p) = q by omega, if_pos (by rw [leN (by omega) (by omega)]; omega)]
    unfold fX10_number_72
    rw [w7, if_pos (by rw [show q - p = 0 by omega]; rfl)]
  · rw [if_neg c]
    rcases num_loop ht hw0 (by omega) 300 p 0 (by omega) (by omega) (by omega) with ⟨h1, h2⟩ | ⟨M, h1, h2⟩
    · exact ⟨-1, -1, h1, h2, Or.inl ⟨rfl, rfl⟩⟩
    · exact ⟨_, _, h1, h2, Or.inr ⟨M, rfl, rfl⟩⟩
theorem num_win {a b : Int32} (h : (a = -1 ∧ b = -1) ∨ ∃ M, a = nI (min M 10000) ∧ b = nI (min M 100000)) {lo hi : Int32} {l m : Nat} (e1 : lo = nI l) (e2 : hi = nI m) (hm : m < 10000) (hlm : l ≤ m) (σ τ : Mem) : (fX9_isWithin σ a lo hi = 0 ∧ fX10_isIn τ b lo hi = 0) ∨ ∃ k, l ≤ k ∧ k ≤ m ∧ a = nI k ∧ b = nI k ∧ fX9_isWithin σ a lo hi = 1 ∧ fX10_isIn τ b lo hi = 1 := by
  subst e1; subst e2
  rw [isW, isI]
  rcases h with ⟨rfl, rfl⟩ | ⟨M, rfl, rfl⟩
  · left
    have : (-1 : Int32) < nI l := Int32.lt_of_lt_of_le (by decide : (-1 : Int32) < 0) (nI_pos' (by omega))
    rw [if_pos (Or.inl this)]; exact ⟨rfl, rfl⟩
  · have g1 : (nI (min M 10000) < nI l ∨ nI m < nI (min M 10000)) = (M < l ∨ m < M) := by rw [ltN (by omega) (by omega), ltN (by omega) (by omega)]; exact propext (by omega)
    have g2 : (nI (min M 100000) < nI l ∨ nI m < nI (min M 100000)) = (M < l ∨ m < M) := by rw [ltN (by omega) (by omega), ltN (by omega) (by omega)]; exact propext (by omega)
    simp only [g1, g2]
    by_cases c : M < l ∨ m < M
    · left; simp only [c, if_true]; exact ⟨trivial, trivial⟩
    · right
      simp only [c, if_false]
      exact ⟨M, by omega, by omega, by rw [Nat.min_eq_left (by omega)], by rw [Nat.min_eq_left (by omega)], trivial, trivial⟩
theorem num_arch {a b : Int32} (h : (a = -1 ∧ b = -1) ∨ ∃ M, a = nI (min M 10000) ∧ b = nI (min M 100000)) {A : Nat} (hA : A ≤ 10) (σ τ : Mem) (ea : τ 0 1 = nI A) : (fX9_isWithin σ a 0 (nI A - 1) = 0 ∧ fX10_isArch τ b = 0) ∨ ∃ k, k < A ∧ a = nI k ∧ b = nI k ∧ fX9_isWithin σ a 0 (nI A - 1) = 1 ∧ fX10_isArch τ b = 1 := by
  unfold fX10_isArch
  rw [ea]
  cases A with
  | zero =>
    left
    rw [isW, isI]
    have e0 : nI 0 - 1 = -1 := by decide
    rw [e0]
    rcases h with ⟨rfl, rfl⟩ | ⟨M, rfl, rfl⟩
    · exact ⟨by decide, by decide⟩
    · have h1 : ∀ k, k < 2 ^ 31 → (-1 : Int32) < nI k := fun k hk => Int32.lt_of_lt_of_le (by decide : (-1 : Int32) < 0) (nI_pos' hk)
      rw [if_pos (Or.inr (h1 _ (by omega))), if_pos (Or.inr (h1 _ (by omega)))]; exact ⟨rfl, rfl⟩
  | succ A =>
    rw [nI_pred]
    rcases num_win h (lo := 0) (hi := nI A) (l := 0) (m := A) rfl rfl (by omega) (by omega) σ τ with h | ⟨k, h1, h2, h3, h4, h5, h6⟩
    · exact Or.inl h
    · exact Or.inr ⟨k, by omega, h3, h4, h5, h6⟩
set_option maxHeartbeats 1000000 in
theorem word_loop {T p q j L : Nat} {v : Int64} {σ τ : Mem} (ht : Tx T σ τ) (hw : Wrd T σ τ p q) (hL : lenJS.getD j 0 = L) (hl : q - p = L) (hch : ∀ k, k < L → ∃ c, c < 128 ∧ chJS j k = nI c ∧ ((v >>> ((8 * ((nI L - 1) - nI k)).toInt64 &&& 63)) &&& 255).toInt32 = nI c) : ∀ (n k : Nat), L - k < n → k ≤ L → (∀ i, i < k → τ 10 (p + i) = chJS j i) → ∃ r, fX4_isWord_20 n σ j (nI k) = some r ∧ fX10_isWord_13 n τ v (nI L) (nI k) = some r ∧ (r = 0 ∨ (r = 1 ∧ ∀ i, i < L → τ 10 (p + i) = chJS j i)) := by
  obtain ⟨t1, t2, t3, t4⟩ := ht
  obtain ⟨w1, w2, w3, w4, w5, w6, w7, w8⟩ := hw
  intro n
  induction n with
  | zero => intro k h; omega
  | succ n ih =>
    intro k hn hk hI
    rw [fX4_isWord_20, fX10_isWord_13, hL, w3, w6, nI_add]
    have fk : (nI L ≤ nI k) = (L ≤ k) := leN (by omega) (by omega)
    by_cases c : L ≤ k
    · simp only [fk, c, if_true]
      exact ⟨1, rfl, rfl, Or.inr ⟨rfl, fun i hi => hI i (by omega)⟩⟩
    obtain ⟨s1, b, hb, s2⟩ := t3 (p + k) (by omega)
    obtain ⟨l, hl128, c1, c2⟩ := hch k (by omega)
    have f1 : (σ 7 (p + k) = nI l) = (b = l) := by rw [s1, s2]; exact let_eq hb hl128
    have f2 : (nI b = nI l) = (b = l) := eqN (by omega) (by omega)
    simp only [fk, c, if_false, inbN (show p + k < 48 by omega) (show 48 < 2 ^ 31 by omega), inbN (show k < L by omega) (show L < 2 ^ 31 by omega), if_true, cN (show p + k < 2 ^ 31 by omega), cN (show k < 2 ^ 31 by omega), c1, c2, s2, f1, f2, nIs]
    by_cases d : b = l
    · simp only [d, if_true]
      refine ih (k + 1) (by omega) (by omega) (fun i hi => ?_)
      by_cases e : i = k
      · subst e; rw [s2, c1, d]
      · exact hI i (by omega)
    · simp only [d, if_false]
      exact ⟨0, rfl, rfl, Or.inl rfl⟩
theorem word_both {T p q j L : Nat} {v : Int64} {σ τ : Mem} (ht : Tx T σ τ) (hw : Wrd T σ τ p q) (hL : lenJS.getD j 0 = L) (hL2 : L < 100) (hch : ∀ k, k < L → ∃ c, c < 128 ∧ chJS j k = nI c ∧ ((v >>> ((8 * ((nI L - 1) - nI k)).toInt64 &&& 63)) &&& 255).toInt32 = nI c) : ∃ r, fX4_isWord σ j = some r ∧ fX10_isWord τ v (nI L) = some r ∧ (r = 0 ∨ (r = 1 ∧ q - p = L ∧ ∀ i, i < L → τ 10 (p + i) = chJS j i)) := by
  have hw0 := hw
  obtain ⟨w1, w2, w3, w4, w5, w6, w7, w8⟩ := hw
  have hT := ht.2.2.2
  unfold fX4_isWord fX10_isWord
  rw [hL, w3, w4, w7, pk_sub w1]
  have f1 : (nI (q - p) = nI L) = (q - p = L) := eqN (by omega) (by omega)
  simp only [f1]
  by_cases c : q - p = L
  · rw [if_pos c, if_pos c]
    obtain ⟨r, h1, h2, h3⟩ := word_loop ht hw0 hL c hch 300 0 (by omega) (by omega) (fun i hi => by omega)
    refine ⟨r, h1, h2, ?_⟩
    rcases h3 with h | ⟨h, h'⟩
    · exact Or.inl h
    · exact Or.inr ⟨h, c, h'⟩
  · rw [if_neg c, if_neg c]; exact ⟨0, rfl, rfl, Or.inl rfl⟩
theorem wd0 {T p q : Nat} {σ τ : Mem} (ht : Tx T σ τ) (hw : Wrd T σ τ p q) : ∃ r, fX4_isWord σ 0 = some r ∧ fX10_isWord τ 6713202 3 = some r ∧ (r = 0 ∨ (r = 1 ∧ q - p = 3 ∧ ∀ i, i < 3 → τ 10 (p + i) = chJS 0 i)) := word_both (L := 3) (v := 6713202) ht hw rfl (by omega) (fun k hk => by
  have h : ∀ k, k < 3 → ∃ c, c < 128 ∧ chJS 0 k = nI c ∧ ((((6713202 : Int64) >>> ((8 * ((nI 3 - 1) - nI k)).toInt64 &&& 63)) &&& 255).toInt32 = nI c) := by
    intro k hk
    rcases (show k = 0 ∨ k = 1 ∨ k = 2 by omega) with rfl | rfl | rfl
    · exact ⟨102, by omega, by decide +kernel, by decide +kernel⟩
    · exact ⟨111, by omega, by decide +kernel, by decide +kernel⟩
    · exact ⟨114, by omega, by decide +kernel, by decide +kernel⟩
  exact h k hk)
theorem wd1 {T p q : Nat} {σ τ : Mem} (ht : Tx T σ τ) (hw : Wrd T σ τ p q) : ∃ r, fX4_isWord σ 1 = some r ∧ fX10_isWord τ 1634886504 4 = some r ∧ (r = 0 ∨ (r = 1 ∧ q - p = 4 ∧ ∀ i, i < 4 → τ 10 (p + i) = chJS 1 i)) := word_both (L := 4) (v := 1634886504) ht hw rfl (by omega) (fun k hk => by
  have h : ∀ k, k < 4 → ∃ c, c < 128 ∧ chJS 1 k = nI c ∧ ((((1634886504 : Int64) >>> ((8 * ((nI 4 - 1) - nI k)).toInt64 &&& 63)) &&& 255).toInt32 = nI c) := by
    intro k hk
    rcases (show k = 0 ∨ k = 1 ∨ k = 2 ∨ k = 3 by omega) with rfl | rfl | rfl | rfl
    · exact ⟨97, by omega, by decide +kernel, by decide +kernel⟩
    · exact ⟨114, by omega, by decide +kernel, by decide +kernel⟩
    · exact ⟨99, by omega, by decide +kernel, by decide +kernel⟩
    · exact ⟨104, by omega, by decide +kernel, by decide +kernel⟩
  exact h k hk)
theorem wd2 {T p q : Nat} {σ τ : Mem} (ht : Tx T σ τ) (hw : Wrd T σ τ p q) : ∃ r, fX4_isWord σ 2 = some r ∧ fX10_isWord τ 6384748 3 = some r ∧ (r = 0 ∨ (r = 1 ∧ q - p = 3 ∧ ∀ i, i < 3 → τ 10 (p + i) = chJS 2 i)) := word_both (L := 3) (v := 6384748) ht hw rfl (by omega) (fun k hk => by
  have h : ∀ k, k < 3 → ∃ c, c < 128 ∧ chJS 2 k = nI c ∧ ((((6384748 : Int64) >>> ((8 * ((nI 3 - 1) - nI k)).toInt64 &&& 63)) &&& 255).toInt32 = nI c) := by
    intro k hk
    rcases (show k = 0 ∨ k = 1 ∨ k = 2 by omega) with rfl | rfl | rfl
    · exact ⟨97, by omega, by decide +kernel, by decide +kernel⟩
    · exact ⟨108, by omega, by decide +kernel, by decide +kernel⟩
    · exact ⟨108, by omega, by decide +kernel, by decide +kernel⟩
  exact h k hk)
theorem wd3 {T p q : Nat} {σ τ : Mem} (ht : Tx T σ τ) (hw : Wrd T σ τ p q) : ∃ r, fX4_isWord σ 3 = some r ∧ fX10_isWord τ 512970877811 5 = some r ∧ (r = 0 ∨ (r = 1 ∧ q - p = 5 ∧ ∀ i, i < 5 → τ 10 (p + i) = chJS 3 i)) := word_both (L := 5) (v := 512970877811) ht hw rfl (by omega) (fun k hk => by
  have h : ∀ k, k < 5 → ∃ c, c < 128 ∧ chJS 3 k = nI c ∧ ((((512970877811 : Int64) >>> ((8 * ((nI 5 - 1) - nI k)).toInt64 &&& 63)) &&& 255).toInt32 = nI c) := by
    intro k hk
    rcases (show k = 0 ∨ k = 1 ∨ k = 2 ∨ k = 3 ∨ k = 4 by omega) with rfl | rfl | rfl | rfl | rfl
    · exact ⟨119, by omega, by decide +kernel, by decide +kernel⟩
    · exact ⟨111, by omega, by decide +kernel, by decide +kernel⟩
    · exact ⟨114, by omega, by decide +kernel, by decide +kernel⟩
    · exact ⟨107, by omega, by decide +kernel, by decide +kernel⟩
    · exact ⟨115, by omega, by decide +kernel, by decide +kernel⟩
  exact h k hk)
theorem wd4 {T p q : Nat} {σ τ : Mem} (ht : Tx T σ τ) (hw : Wrd T σ τ p q) : ∃ r, fX4_isWord σ 4 = some r ∧ fX10_isWord τ 1886351218 4 = some r ∧ (r = 0 ∨ (r = 1 ∧ q - p = 4 ∧ ∀ i, i < 4 → τ 10 (p + i) = chJS 4 i)) := word_both (L := 4) (v := 1886351218) ht hw rfl (by omega) (fun k hk => by
  have h : ∀ k, k < 4 → ∃ c, c < 128 ∧ chJS 4 k = nI c ∧ ((((1886351218 : Int64) >>> ((8 * ((nI 4 - 1) - nI k)).toInt64 &&& 63)) &&& 255).toInt32 = nI c) := by
    intro k hk
    rcases (show k = 0 ∨ k = 1 ∨ k = 2 ∨ k = 3 by omega) with rfl | rfl | rfl | rfl
    · exact ⟨112, by omega, by decide +kernel, by decide +kernel⟩
    · exact ⟨111, by omega, by decide +kernel, by decide +kernel⟩
    · exact ⟨111, by omega, by decide +kernel, by decide +kernel⟩
    · exact ⟨114, by omega, by decide +kernel, by decide +kernel⟩
  exact h k hk)
theorem wd5 {T p q : Nat} {σ τ : Mem} (ht : Tx T σ τ) (hw : Wrd T σ τ p q) : ∃ r, fX4_isWord σ 5 = some r ∧ fX10_isWord τ 109299962504556 6 = some r ∧ (r = 0 ∨ (r = 1 ∧ q - p = 6 ∧ ∀ i, i < 6 → τ 10 (p + i) = chJS 5 i)) := word_both (L := 6) (v := 109299962504556) ht hw rfl (by omega) (fun k hk => by
  have h : ∀ k, k < 6 → ∃ c, c < 128 ∧ chJS 5 k = nI c ∧ ((((109299962504556 : Int64) >>> ((8 * ((nI 6 - 1) - nI k)).toInt64 &&& 63)) &&& 255).toInt32 = nI c) := by
    intro k hk
    rcases (show k = 0 ∨ k = 1 ∨ k = 2 ∨ k = 3 ∨ k = 4 ∨ k = 5 by omega) with rfl | rfl | rfl | rfl | rfl | rfl
    · exact ⟨99, by omega, by decide +kernel, by decide +kernel⟩
    · exact ⟨104, by omega, by decide +kernel, by decide +kernel⟩
    · exact ⟨97, by omega, by decide +kernel, by decide +kernel⟩
    · exact ⟨112, by omega, by decide +kernel, by decide +kernel⟩
    · exact ⟨101, by omega, by decide +kernel, by decide +kernel⟩
    · exact ⟨108, by omega, by decide +kernel, by decide +kernel⟩
  exact h k hk)
theorem wd6 {T p q : Nat} {σ τ : Mem} (ht : Tx T σ τ) (hw : Wrd T σ τ p q) : ∃ r, fX4_isWord σ 6 = some r ∧ fX10_isWord τ 1718775661 4 = some r ∧ (r = 0 ∨ (r = 1 ∧ q - p = 4 ∧ ∀ i, i < 4 → τ 10 (p + i) = chJS 6 i)) := word_both (L := 4) (v := 1718775661) ht hw rfl (by omega) (fun k hk => by
  have h : ∀ k, k < 4 → ∃ c, c < 128 ∧ chJS 6 k = nI c ∧ ((((1718775661 : Int64) >>> ((8 * ((nI 4 - 1) - nI k)).toInt64 &&& 63)) &&& 255).toInt32 = nI c) := by
    intro k hk
    rcases (show k = 0 ∨ k = 1 ∨ k = 2 ∨ k = 3 by omega) with rfl | rfl | rfl | rfl
    · exact ⟨102, by omega, by decide +kernel, by decide +kernel⟩
    · exact ⟨114, by omega, by decide +kernel, by decide +kernel⟩
    · exact ⟨111, by omega, by decide +kernel, by decide +kernel⟩
    · exact ⟨109, by omega, by decide +kernel, by decide +kernel⟩
  exact h k hk)
theorem wd7 {T p q : Nat} {σ τ : Mem} (ht : Tx T σ τ) (hw : Wrd T σ τ p q) : ∃ r, fX4_isWord σ 7 = some r ∧ fX10_isWord τ 1953066092 4 = some r ∧ (r = 0 ∨ (r = 1 ∧ q - p = 4 ∧ ∀ i, i < 4 → τ 10 (p + i) = chJS 7 i)) := word_both (L := 4) (v := 1953066092) ht hw rfl (by omega) (fun k hk => by
  have h : ∀ k, k < 4 → ∃ c, c < 128 ∧ chJS 7 k = nI c ∧ ((((1953066092 : Int64) >>> ((8 * ((nI 4 - 1) - nI k)).toInt64 &&& 63)) &&& 255).toInt32 = nI c) := by
    intro k hk
    rcases (show k = 0 ∨ k = 1 ∨ k = 2 ∨ k = 3 by omega) with rfl | rfl | rfl | rfl
    · exact ⟨116, by omega, by decide +kernel, by decide +kernel⟩
    · exact ⟨105, by omega, by decide +kernel, by decide +kernel⟩
    · exact ⟨108, by omega, by decide +kernel, by decide +kernel⟩
    · exact ⟨108, by omega, by decide +kernel, by decide +kernel⟩
  exact h k hk)
theorem wd8 {T p q : Nat} {σ τ : Mem} (ht : Tx T σ τ) (hw : Wrd T σ τ p q) : ∃ r, fX4_isWord σ 8 = some r ∧ fX10_isWord τ 133476333546617 6 = some r ∧ (r = 0 ∨ (r = 1 ∧ q - p = 6 ∧ ∀ i, i < 6 → τ 10 (p + i) = chJS 8 i)) := word_both (L := 6) (v := 133476333546617) ht hw rfl (by omega) (fun k hk => by
  have h : ∀ k, k < 6 → ∃ c, c < 128 ∧ chJS 8 k = nI c ∧ ((((133476333546617 : Int64) >>> ((8 * ((nI 6 - 1) - nI k)).toInt64 &&& 63)) &&& 255).toInt32 = nI c) := by
    intro k hk
    rcases (show k = 0 ∨ k = 1 ∨ k = 2 ∨ k = 3 ∨ k = 4 ∨ k = 5 by omega) with rfl | rfl | rfl | rfl | rfl | rfl
    · exact ⟨121, by omega, by decide +kernel, by decide +kernel⟩
    · exact ⟨101, by omega, by decide +kernel, by decide +kernel⟩
    · exact ⟨97, by omega, by decide +kernel, by decide +kernel⟩
    · exact ⟨114, by omega, by decide +kernel, by decide +kernel⟩
    · exact ⟨108, by omega, by decide +kernel, by decide +kernel⟩
    · exact ⟨121, by omega, by decide +kernel, by decide +kernel⟩
  exact h k hk)
