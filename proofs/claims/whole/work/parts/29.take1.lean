set_option maxHeartbeats 1000000 in
theorem bk4 {σ τ : Mem} {c : Nat} (hc : c < 200) (a b d e : Int32) (h : Rbk σ τ) : Rbk (mset (mset (mset (mset σ 12 (4 * c) a) 12 (4 * c + 1) b) 12 (4 * c + 2) d) 12 (4 * c + 3) e) (mset (mset (mset (mset τ 20 (4 * c) a) 20 (4 * c + 1) b) 20 (4 * c + 2) d) 20 (4 * c + 3) e) := by
  intro j hj
  by_cases e3 : j = 4 * c + 3
  · subst e3; rw [mg_e, mg_e]
  rw [mg_k e3, mg_k e3]
  by_cases e2 : j = 4 * c + 2
  · subst e2; rw [mg_e, mg_e]
  rw [mg_k e2, mg_k e2]
  by_cases e1 : j = 4 * c + 1
  · subst e1; rw [mg_e, mg_e]
  rw [mg_k e1, mg_k e1]
  by_cases e0 : j = 4 * c
  · subst e0; rw [mg_e, mg_e]
  rw [mg_k e0, mg_k e0]; exact h j hj
theorem xadd (c k : Nat) (z : Int32) (hz : z = nI k) : nI c + z = nI (c + k) := by rw [hz, nI_add]
set_option maxHeartbeats 1000000 in
theorem bk_step {σ τ : Mem} {Y O Z : Nat} (a b d : Int32) (hy : τ 0 0 = nI Y) (o1 : σ 11 1 = nI O) (o2 : τ 0 24 = nI O) (o3 : O < 200) (z1 : σ 11 2 = nI Z) (z2 : τ 0 25 = nI Z) (z3 : Z ≤ 200) (hb : Rbk σ τ) :
    ∃ σ' τ' O' Z', fX1_write σ (nI Y) a b d = some σ' ∧ fX10_write τ a b d = some τ' ∧ (σ' 11 1 = nI O' ∧ τ' 0 24 = nI O' ∧ O' < 200) ∧ (σ' 11 2 = nI Z' ∧ τ' 0 25 = nI Z' ∧ Z' ≤ 200) ∧ Rbk σ' τ' ∧ (∀ i, i ≠ 11 → i ≠ 12 → σ' i = σ i) ∧ (∀ i, i ≠ 0 → i ≠ 20 → τ' i = τ i) ∧ (∀ k, k ≠ 24 → k ≠ 25 → τ' 0 k = τ 0 k) := by
  have hc : (O + Z) % 200 < 200 := Nat.mod_lt _ (by omega)
  have hX : fX1_write σ (nI Y) a b d = some (if 200 ≤ Z then mset (mset (mset (mset (mset σ 12 (4 * ((O + Z) % 200)) (nI Y)) 12 (4 * ((O + Z) % 200) + 1) a) 12 (4 * ((O + Z) % 200) + 2) b) 12 (4 * ((O + Z) % 200) + 3) d) 11 1 (nI ((O + 1) % 200)) else mset (mset (mset (mset (mset σ 12 (4 * ((O + Z) % 200)) (nI Y)) 12 (4 * ((O + Z) % 200) + 1) a) 12 (4 * ((O + Z) % 200) + 2) b) 12 (4 * ((O + Z) % 200) + 3) d) 11 2 (nI (Z + 1))) := by
    unfold fX1_write
    have e0 : nI ((O + Z) % 200) * (4 : Int32) = nI (4 * ((O + Z) % 200)) := by rw [i4, pk_mul, Nat.mul_comm]
    simp only [o1, z1, nI_add, remN (show O + Z < 2 ^ 31 by omega), biE, e0, xadd _ 1 1 rfl, xadd _ 2 2 rfl, xadd _ 3 3 rfl]
    simp only [inbN (show 4 * ((O + Z) % 200) < 800 by omega) (show 800 < 2 ^ 31 by omega), inbN (show 4 * ((O + Z) % 200) + 1 < 800 by omega) (show 800 < 2 ^ 31 by omega), inbN (show 4 * ((O + Z) % 200) + 2 < 800 by omega) (show 800 < 2 ^ 31 by omega), inbN (show 4 * ((O + Z) % 200) + 3 < 800 by omega) (show 800 < 2 ^ 31 by omega), if_true, bmE, cN (show 4 * ((O + Z) % 200) < 2 ^ 31 by omega), cN (show 4 * ((O + Z) % 200) + 1 < 2 ^ 31 by omega), cN (show 4 * ((O + Z) % 200) + 2 < 2 ^ 31 by omega), cN (show 4 * ((O + Z) % 200) + 3 < 2 ^ 31 by omega), mg_i (show (11 : Nat) ≠ 12 by omega), z1, o1]
    have e1 : ((200 : Int32) ≤ nI Z) = (200 ≤ Z) := leN (a := 200) (by omega) (by omega)
    simp only [e1]
    by_cases c : 200 ≤ Z
    · rw [if_pos c, if_pos c]
      have e2 : nI O + 1 - (nI O + 1) / 200 * 200 = nI ((O + 1) % 200) := by rw [nIs]; exact remN (by omega)
      rw [e2]
    · rw [if_neg c, if_neg c, nIs]
  rw [hX]
  by_cases c : 200 ≤ Z
  · have eZ : Z = 200 := by omega
    subst eZ
    have eO : (O + 200) % 200 = O := by omega
    have hM : fX10_write τ a b d = some (mset (mset (mset (mset (mset (mset (mset τ 0 24 (nI ((O + 1) % 200))) 0 25 (nI 199)) 20 (4 * O) (nI Y)) 20 (4 * O + 1) a) 20 (4 * O + 2) b) 20 (4 * O + 3) d) 0 25 (nI 200)) := by
      unfold fX10_write fX10_write_34
      have e3 : ((O + 1) % 200 + 199) % 200 = O := by omega
      have e4 : nI O + 1 - (nI O + 1) / 200 * 200 = nI ((O + 1) % 200) := by rw [nIs]; exact remN (by omega)
      have e5 : nI 200 - 1 = nI 199 := nI_pred 199
      have e6 : (nI 200 = (200 : Int32)) = True := by decide
      simp only [z2, o2, e6, if_true, bmE, e4, mg_k (show (25 : Nat) ≠ 24 by omega), mg_k (show (24 : Nat) ≠ 25 by omega), mg_k (show (0 : Nat) ≠ 25 by omega), mg_k (show (0 : Nat) ≠ 24 by omega), mg_e, e5, nI_add, hy]
      rw [remN (by omega), e3]
      have e0 : (4 : Int32) * nI O = nI (4 * O) := by rw [i4, pk_mul]
      simp only [biE, e0, xadd _ 1 1 rfl, xadd _ 2 2 rfl, xadd _ 3 3 rfl, inbN (show 4 * O < 800 by omega) (show 800 < 2 ^ 31 by omega), inbN (show 4 * O + 1 < 800 by omega) (show 800 < 2 ^ 31 by omega), inbN (show 4 * O + 2 < 800 by omega) (show 800 < 2 ^ 31 by omega), inbN (show 4 * O + 3 < 800 by omega) (show 800 < 2 ^ 31 by omega), if_true, bmE, cN (show 4 * O < 2 ^ 31 by omega), cN (show 4 * O + 1 < 2 ^ 31 by omega), cN (show 4 * O + 2 < 2 ^ 31 by omega), cN (show 4 * O + 3 < 2 ^ 31 by omega), mg_i (show (0 : Nat) ≠ 20 by omega), mg_e, nIs]
    rw [hM, if_pos c, eO]
    refine ⟨_, _, (O + 1) % 200, 200, rfl, rfl, ⟨mg_e, ?_, by omega⟩, ⟨?_, mg_e, by omega⟩, ?_, fun i h1 h2 => ?_, fun i h1 h2 => ?_, fun k h1 h2 => ?_⟩
    · rw [mg_k (by omega), mg_i (by omega), mg_i (by omega), mg_i (by omega), mg_i (by omega), mg_k (by omega), mg_e]
    · rw [mg_k (by omega), mg_i (by omega), mg_i (by omega), mg_i (by omega), mg_i (by omega), z1]
    · have hb' : Rbk σ (mset (mset τ 0 24 (nI ((O + 1) % 200))) 0 25 (nI 199)) := hb.cg rfl (by rw [mset_ne (by omega), mset_ne (by omega)])
      exact (bk4 o3 (nI Y) a b d hb').cg (mset_ne (by omega)) (mset_ne (by omega))
    · rw [mset_ne h1, mset_ne h2, mset_ne h2, mset_ne h2, mset_ne h2]
    · rw [mset_ne h1, mset_ne h2, mset_ne h2, mset_ne h2, mset_ne h2, mset_ne h1, mset_ne h1]
    · rw [mg_k h2, mg_i (by omega), mg_i (by omega), mg_i (by omega), mg_i (by omega), mg_k h2, mg_k h1]
  · have hM : fX10_write τ a b d = some (mset (mset (mset (mset (mset τ 20 (4 * ((O + Z) % 200)) (nI Y)) 20 (4 * ((O + Z) % 200) + 1) a) 20 (4 * ((O + Z) % 200) + 2) b) 20 (4 * ((O + Z) % 200) + 3) d) 0 25 (nI (Z + 1))) := by
      unfold fX10_write fX10_write_34
      have e6 : (nI Z = (200 : Int32)) = (Z = 200) := eqN (b := 200) (by omega) (by omega)
      simp only [z2, o2, e6]
      rw [if_neg (show ¬ Z = 200 by omega)]
      have e0 : (4 : Int32) * nI ((O + Z) % 200) = nI (4 * ((O + Z) % 200)) := by rw [i4, pk_mul]
      simp only [nI_add, remN (show O + Z < 2 ^ 31 by omega), biE, e0, xadd _ 1 1 rfl, xadd _ 2 2 rfl, xadd _ 3 3 rfl, inbN (show 4 * ((O + Z) % 200) < 800 by omega) (show 800 < 2 ^ 31 by omega), inbN (show 4 * ((O + Z) % 200) + 1 < 800 by omega) (show 800 < 2 ^ 31 by omega), inbN (show 4 * ((O + Z) % 200) + 2 < 800 by omega) (show 800 < 2 ^ 31 by omega), inbN (show 4 * ((O + Z) % 200) + 3 < 800 by omega) (show 800 < 2 ^ 31 by omega), if_true, bmE, cN (show 4 * ((O + Z) % 200) < 2 ^ 31 by omega), cN (show 4 * ((O + Z) % 200) + 1 < 2 ^ 31 by omega), cN (show 4 * ((O + Z) % 200) + 2 < 2 ^ 31 by omega), cN (show 4 * ((O + Z) % 200) + 3 < 2 ^ 31 by omega), mg_i (show (0 : Nat) ≠ 20 by omega), z2, hy]
    rw [hM, if_neg c]
    refine ⟨_, _, O, Z + 1, rfl, rfl, ⟨?_, ?_, o3⟩, ⟨mg_e, mg_e, by omega⟩, ?_, fun i h1 h2 => ?_, fun i h1 h2 => ?_, fun k h1 h2 => ?_⟩
    · rw [mg_k (by omega), mg_i (by omega), mg_i (by omega), mg_i (by omega), mg_i (by omega), o1]
    · rw [mg_k (by omega), mg_i (by omega), mg_i (by omega), mg_i (by omega), mg_i (by omega), o2]
    · exact (bk4 hc (nI Y) a b d hb).cg (mset_ne (by omega)) (mset_ne (by omega))
    · rw [mset_ne h1, mset_ne h2, mset_ne h2, mset_ne h2, mset_ne h2]
    · rw [mset_ne h1, mset_ne h2, mset_ne h2, mset_ne h2, mset_ne h2]
    · rw [mg_k h2, mg_i (by omega), mg_i (by omega), mg_i (by omega), mg_i (by omega)]
/-- which purse pays next -/
def bst (σ : Mem) (v y : Int32) : Nat → Int32
  | 0 => -1
  | p + 1 => if fX5_canPay σ (44 + p) v y = 0 then bst σ v y p else if bst σ v y p = -1 then nI p else if fX5_paysAheadOf σ (44 + p) (44 + (bst σ v y p).toNatClampNeg) = 0 then bst σ v y p else nI p
theorem nI_m1 {k : Nat} (h : k < 2 ^ 31) : ¬ nI k = -1 := by
  intro e
  have := nI_pos h
  rw [e] at this
  exact this (by decide)
theorem bst_or (σ : Mem) (v y : Int32) : ∀ p, p ≤ 20 → (bst σ v y p = -1 ∧ ∀ q, q < p → fX5_canPay σ (44 + q) v y = 0) ∨ ∃ q, q < p ∧ bst σ v y p = nI q ∧ ¬ fX5_canPay σ (44 + q) v y = 0
  | 0, _ => Or.inl ⟨rfl, fun q h => by omega⟩
  | p + 1, hp => by
    rw [bst]
    by_cases c : fX5_canPay σ (44 + p) v y = 0
    · rw [if_pos c]
      rcases bst_or σ v y p (by omega) with ⟨h1, h2⟩ | ⟨q, h1, h2, h3⟩
      · exact Or.inl ⟨h1, fun q hq => by
          by_cases e : q = p
          · subst e; exact c
          · exact h2 q (by omega)⟩
      · exact Or.inr ⟨q, by omega, h2, h3⟩
    · rw [if_neg c]
      right
      rcases bst_or σ v y p (by omega) with ⟨h1, h2⟩ | ⟨q, h1, h2, h3⟩
      · rw [if_pos h1]; exact ⟨p, by omega, rfl, c⟩
      · rw [if_neg (by rw [h2]; exact nI_m1 (by omega))]
        split
        · exact ⟨q, by omega, h2, h3⟩
        · exact ⟨p, by omega, rfl, c⟩
set_option maxHeartbeats 1000000 in
theorem next_eq {σ : Mem} {P : Nat} (v y : Int32) (hP : σ 9 1 = nI P) (hP2 : P ≤ 20) : fX3_nextToPay σ v y = some (bst σ v y P) := by
  unfold fX3_nextToPay
  obtain ⟨a, h1, h2⟩ := lp_up (S := Int32) (fun n a i => fX3_nextToPay_5 n σ v y a i) (fun a => some a) (fun k a => a = bst σ v y k) P
    (fun n a _ => by
      show fX3_nextToPay_5 (n + 1) σ v y a (nI P) = _
      rw [fX3_nextToPay_5, hP, if_pos (by rw [leN (by omega) (by omega)]; omega)])
    (fun n k a hk e => by
      refine ⟨bst σ v y (k + 1), rfl, ?_⟩
      show fX3_nextToPay_5 (n + 1) σ v y a (nI k) = fX3_nextToPay_5 n σ v y _ (nI (k + 1))
      rw [fX3_nextToPay_5, hP, if_neg (by rw [leN (by omega) (by omega)]; omega), e, bst]
      simp only [inbN (show k < 20 by omega) (show 20 < 2 ^ 31 by omega), cN (show k < 2 ^ 31 by omega), if_true, rf10, nIs]
      by_cases c : fX5_canPay σ (44 + k) v y = 0
      · simp only [c, if_true]
      · rcases bst_or σ v y k (by omega) with ⟨h1, -⟩ | ⟨q, h1, h2, -⟩
        · simp only [c, if_false, h1, if_true]
        · have e2 : ¬ bst σ v y k = -1 := by rw [h2]; exact nI_m1 (by omega)
          have e3 : inb (bst σ v y k) 20 = true := by rw [h2]; exact inbN (by omega) (by omega)
          simp only [c, e2, if_false, e3, if_true]
          by_cases d : fX5_paysAheadOf σ (44 + k) (44 + (bst σ v y k).toNatClampNeg) = 0
          · simp only [d, if_true]
          · simp only [d, if_false])
    300 0 (-1) (by omega) (by omega) rfl
  rw [← h1]; exact h2
set_option maxHeartbeats 1000000 in
theorem turn_eq {σ τ : Mem} {p k : Nat} (hp : p < 20) (h1 : σ (44 + p) 1 = τ 11 p) (h2 : τ 11 p = nI k) (hk : k ≤ 13) : fX10_turnOf τ (nI p) = some (fX5_breadth σ (44 + p)) := by
  unfold fX10_turnOf fX5_breadth
  simp only [inbN hp (show 20 < 2 ^ 31 by omega), cN (show p < 2 ^ 31 by omega), if_true, h1, h2]
  have f0 : (nI k = (0 : Int32)) = (k = 0) := eqN (b := 0) (by omega) (by omega)
  have f1 : (nI k = (1 : Int32)) = (k = 1) := eqN (b := 1) (by omega) (by omega)
  have f2 : (nI k = (2 : Int32)) = (k = 2) := eqN (b := 2) (by omega) (by omega)
  have f3 : (nI k = (3 : Int32)) = (k = 3) := eqN (b := 3) (by omega) (by omega)
  have f4 : (nI k < (4 : Int32)) = (k < 4) := ltN (b := 4) (by omega) (by omega)
  simp only [f0, f1, f2, f3, f4]
  by_cases c4 : k < 4
  · rcases (show k = 0 ∨ k = 1 ∨ k = 2 ∨ k = 3 by omega) with rfl | rfl | rfl | rfl
    · simp
    · simp; rfl
    · simp; rfl
    · simp; rfl
  · rw [if_neg c4, if_neg (by omega), if_neg (by omega), if_neg (by omega), if_neg (by omega)]
theorem sooner_eq {Y A : Nat} {σ τ : Mem} {p q : Nat} (hu : Rpu Y A σ τ) (hA : A ≤ 10) (hp : p < 20) (hq : q < 20) : fX10_isSooner τ (nI p) (nI q) = some (fX5_paysAheadOf σ (44 + p) (44 + q)) := by
  obtain ⟨⟨q1, q2, q3, -⟩, -, ⟨e, he, b1⟩, -⟩ := hu p hp
  obtain ⟨⟨r1, r2, r3, -⟩, -, ⟨e', he', b1'⟩, -⟩ := hu q hq
  unfold fX10_isSooner fX5_paysAheadOf
  rw [turn_eq hp q1 b1 (by omega), turn_eq hq r1 b1' (by omega)]
  simp only [boS, inbN hp (show 20 < 2 ^ 31 by omega), inbN hq (show 20 < 2 ^ 31 by omega), cN (show p < 2 ^ 31 by omega), cN (show q < 2 ^ 31 by omega), if_true, q3, r3]
  by_cases c1 : fX5_breadth σ (44 + p) < fX5_breadth σ (44 + q)
  · simp only [c1, if_true]
  · by_cases c2 : fX5_breadth σ (44 + p) = fX5_breadth σ (44 + q)
    · by_cases c3 : τ 13 q ≤ τ 13 p
      · simp only [c1, if_false, if_pos c2, if_pos c3]
      · simp only [c1, if_false, if_pos c2, if_neg c3]
    · simp only [c1, c2, if_false]
theorem can_eq {Y A : Nat} {σ τ : Mem} {p : Nat} {v : Int32} (hu : Rpu Y A σ τ) (hA : A ≤ 10) (hp : p < 20) (hy : τ 0 0 = nI Y) : ∃ a b, fX10_isOpen τ (nI p) = some a ∧ fX10_serves τ (nI p) v = some b ∧ (fX5_canPay σ (44 + p) v (nI Y) = 0) = (a = 0 ∨ b = 0 ∨ τ 16 p ≤ 0) := by
  obtain ⟨⟨q1, q2, q3, q4, q5, q6, q7, q8⟩, -, ⟨e, he, b1⟩, -⟩ := hu p hp
  refine ⟨_, _, isOpen_eq hp hy q2 q3, serves_eq v hp q1 b1 (by omega), ?_⟩
  unfold fX5_canPay
  rw [q6]
  by_cases c1 : τ 16 p ≤ 0
  · simp [c1]
  · by_cases c2 : fX5_isOpen σ (44 + p) (nI Y) = 0
    · simp [c1, c2]
    · by_cases c3 : fX5_serves σ (44 + p) v = 0
      · simp [c1, c2, c3]
      · simp [c1, c2, c3]
set_option maxHeartbeats 1000000 in
theorem mnext_eq {Y A P : Nat} {σ τ : Mem} (c2 : Mem → Int32 → Int32 → Int32 → Option Mem) (v n left : Int32) (hu : Rpu Y A σ τ) (hA : A ≤ 10) (hy : τ 0 0 = nI Y) (hP : τ 0 13 = nI P) (hP2 : P ≤ 20) : fX10_taken_12 c2 300 τ v n left (-1) 0 = fX10_taken_76 c2 τ v n left (bst σ v (nI Y) P) := by
  obtain ⟨a, h1, h2⟩ := lp_up (S := Int32) (fun m a i => fX10_taken_12 c2 m τ v n left a i) (fun a => fX10_taken_76 c2 τ v n left a) (fun k a => a = bst σ v (nI Y) k) P
    (fun m a _ => by
      show fX10_taken_12 c2 (m + 1) τ v n left a (nI P) = _
      rw [fX10_taken_12, hP, if_pos (by rw [leN (by omega) (by omega)]; omega)])
    (fun m k a hk e => by
      refine ⟨bst σ v (nI Y) (k + 1), rfl, ?_⟩
      show fX10_taken_12 c2 (m + 1) τ v n left a (nI k) = fX10_taken_12 c2 m τ v n left _ (nI (k + 1))
      obtain ⟨x, y, e1, e2, e3⟩ := can_eq (v := v) hu hA (show k < 20 by omega) hy
      rw [fX10_taken_12, hP, if_neg (by rw [leN (by omega) (by omega)]; omega), e, bst, e1, boS, e2]
      simp only [inbN (show k < 20 by omega) (show 20 < 2 ^ 31 by omega), cN (show k < 2 ^ 31 by omega), if_true, nIs, boS, e3]
      by_cases d1 : x = 0
      · simp only [d1, if_true, true_or]
      by_cases d2 : y = 0
      · simp only [d1, d2, if_true, if_false, true_or, or_true]
      by_cases d3 : τ 16 k ≤ 0
      · simp only [d1, d2, d3, if_true, if_false, or_true]
      simp only [d1, d2, d3, if_false, or_self]
      rcases bst_or σ v (nI Y) k (by omega) with ⟨h1, -⟩ | ⟨q, h1, h2, -⟩
      · rw [h1]
        simp only [show ((-1 : Int32) < 0) = True by decide, if_true]
      · have e4 : ¬ nI q = -1 := nI_m1 (by omega)
        rw [h2]
        simp only [e4, nI_pos (show q < 2 ^ 31 by omega), if_false, sooner_eq hu hA (show k < 20 by omega) (show q < 20 by omega), boS, cN (show q < 2 ^ 31 by omega)]
        by_cases d : fX5_paysAheadOf σ (44 + k) (44 + q) = 0
        · simp only [d, if_true]
        · simp only [d, if_false])
    300 0 (-1) (by omega) (by omega) rfl
  rw [← h1]; exact h2
