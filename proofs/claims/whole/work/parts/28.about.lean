theorem sm01 {f : Nat → Int32} : ∀ n, (∀ i, i < n → f i = 0 ∨ f i = 1) → ∃ m, m ≤ n ∧ smI f n = nI m
  | 0, _ => ⟨0, by omega, rfl⟩
  | n + 1, h => by
    obtain ⟨m, h1, h2⟩ := sm01 n (fun i hi => h i (by omega))
    rw [smI, h2]
    rcases h n (by omega) with e | e
    · rw [e]; exact ⟨m, by omega, Int32.add_zero _⟩
    · rw [e]; exact ⟨m + 1, by omega, nIs m⟩
theorem bd01 {x : Int32} (h : Bd x 1) : x = 0 ∨ x = 1 := by
  obtain ⟨k, hk, rfl⟩ := h
  rcases (show k = 0 ∨ k = 1 by omega) with rfl | rfl
  · exact Or.inl rfl
  · exact Or.inr rfl
theorem loss_bd {kd st hs fl bl : Int32} (h1 : Bd kd 3) (h3 : Bd hs 4) (h4 : Bd fl 1000) (h5 : Bd bl 10) : Bd (lossV kd st hs fl bl) 2100 := by
  obtain ⟨a, ha, rfl⟩ := h1
  obtain ⟨c, hc, rfl⟩ := h3
  obtain ⟨f, hf, rfl⟩ := h4
  obtain ⟨b, hb, rfl⟩ := h5
  have hfb : f * (10 + b) ≤ 1000 * 20 := Nat.mul_le_mul (by omega) (by omega)
  have e1 : (10 : Int32) + 4 * nI c = nI (10 + 4 * c) := by rw [i10, i4, pk_mul, nI_add]
  have e2 : nI f * ((10 : Int32) + nI b) / 10 = nI (f * (10 + b) / 10) := by rw [i10, nI_add, pk_mul]; exact pk_div (by omega) (by omega) (by omega)
  have e3 : nI (10 + 4 * c) / 2 = nI ((10 + 4 * c) / 2) := pk_div (d := 2) (by omega) (by omega) (by omega)
  have e4 : nI (f * (10 + b) / 10) / 2 = nI (f * (10 + b) / 10 / 2) := pk_div (d := 2) (by omega) (by omega) (by omega)
  have e5 : nI (10 + 4 * c) + 15 = nI (10 + 4 * c + 15) := nI_add _ 15
  have e6 : (2 : Int32) * nI (10 + 4 * c + 15) = nI (2 * (10 + 4 * c + 15)) := pk_mul 2 _
  unfold lossV wearV
  rw [e1, e2, e3, e4, e5, e6]
  by_cases c0 : st = 0
  · rw [if_pos c0]; exact ⟨0, by omega, rfl⟩
  rw [if_neg c0]
  by_cases c1 : nI a = 1
  · rw [if_pos c1, if_pos c1, nI_add]; exact ⟨_, by omega, rfl⟩
  rw [if_neg c1, if_neg c1]
  by_cases c2 : nI a = 2
  · rw [if_pos c2, nI_add]; exact ⟨_, by omega, rfl⟩
  rw [if_neg c2]
  by_cases c3 : nI a = 3
  · rw [if_pos c3, nI_add]; exact ⟨_, by omega, rfl⟩
  · rw [if_neg c3, nI_add]; exact ⟨_, by omega, rfl⟩
theorem newS_eq {s l : Int32} (h1 : Bd s 1000) (h2 : Bd l 2100) : newS s l = nS s l ∧ Bd (nS s l) 1000 := by
  obtain ⟨a, ha, rfl⟩ := h1
  obtain ⟨b, hb, rfl⟩ := h2
  unfold newS nS
  have e : (nI a ≤ nI b) = (a ≤ b) := leN (by omega) (by omega)
  simp only [e]
  by_cases c : a ≤ b
  · rw [if_pos c]
    refine ⟨if_neg ?_, 0, by omega, rfl⟩
    by_cases c2 : a = b
    · subst c2; rw [pk_sub (by omega), Nat.sub_self]; decide
    · intro h3
      have := pk_sneg (a := a) (b := b) (by omega) (by omega)
      exact Int32.lt_irrefl (Int32.lt_trans h3 this)
  · rw [if_neg c, pk_sub (by omega)]
    exact ⟨if_pos (by rw [i0, ltN (by omega) (by omega)]; omega), a - b, by omega, rfl⟩
/-- the class's arches at B beside the reference's working rows -/
def Shd (B A : Nat) (σ τ : Mem) : Prop := ∀ i, i < A → (σ (B + i) 0 = τ 1 i ∧ σ (B + i) 1 = τ 22 i ∧ σ (B + i) 2 = τ 23 i ∧ σ (B + i) 3 = τ 24 i) ∧ Bd (τ 1 i) 3 ∧ Bd (τ 22 i) 1000 ∧ Bd (τ 23 i) 4 ∧ Bd (τ 24 i) 1 ∧ (τ 22 i = 0 → τ 23 i = 0 ∧ τ 24 i = 0)
theorem bl_eq {B A : Nat} {σ τ : Mem} (h : Shd B A σ τ) : smI (fun i => σ (B + i) 3) A + smI (fun i => if σ (B + i) 1 = 0 then 1 else 0) A = blM τ A := by
  rw [← smI_add]
  refine smI_congr A (fun i hi => ?_)
  obtain ⟨⟨q1, q2, q3, q4⟩, b1, b2, b3, b4, b5⟩ := h i hi
  simp only [q4, q2]
  rcases bd01 b4 with e | e
  · rw [e]
    by_cases c : τ 22 i = 0
    · simp [c]
    · simp [c]
  · have c : ¬ τ 22 i = 0 := fun c => by have := (b5 c).2; rw [e] at this; exact absurd this (by decide)
    simp [e, c]
theorem blM_bd {B A : Nat} {σ τ : Mem} (h : Shd B A σ τ) (hA : A ≤ 10) : Bd (blM τ A) 10 := by
  obtain ⟨m, h1, h2⟩ := sm01 (f := fun i => if τ 24 i = 1 then 1 else if τ 22 i = 0 then 1 else 0) A (fun i hi => by
    by_cases c : τ 24 i = 1
    · simp [c]
    · by_cases d : τ 22 i = 0
      · simp [c, d]
      · simp [c, d])
  exact ⟨m, by omega, h2⟩
set_option maxHeartbeats 1000000 in
theorem year_step {σ τ : Mem} {b B A : Nat} {y fl : Int32} (hB : ∀ k, rfX (rfX b 0) k = B + k) (hb : b < B) (hA : σ b 1 = nI A) (hA' : τ 0 1 = nI A) (hA2 : A ≤ 10) (h : Shd B A σ τ) (hf : fX10_numberOf τ 0 y = some fl) (hfl : Bd fl 1000) :
    ∃ σ' τ1 τ', fX2_sufferYear σ b fl = some σ' ∧ fX10_findLosses τ y = some τ1 ∧ fX10_lose τ1 = some τ' ∧ Shd B A σ' τ' ∧ (∀ i, ¬ (B ≤ i ∧ i < B + A) → σ' i = σ i) ∧ (∀ i, i < A → ∀ k, k ≠ 1 → k ≠ 2 → k ≠ 3 → σ' (B + i) k = σ (B + i) k) ∧ (∀ i, i ≠ 22 → i ≠ 23 → i ≠ 24 → i ≠ 25 → τ' i = τ i) := by
  obtain ⟨bl, ebl, σ', g1, g2, g3⟩ := suffer_eq (σ := σ) fl hB hb hA hA2
  rw [bl_eq h] at ebl
  subst ebl
  obtain ⟨τ1, k1, k2, k3⟩ := losses_eq (τ := τ) (y := y) hA' hA2 hf
  obtain ⟨τ', l1, l2, l3⟩ := lose_eq (τ := τ1) (A := A) (by rw [k2 0 (by omega)]; exact hA') hA2
  refine ⟨σ', τ1, τ', g1, k1, l1, fun i hi => ?_, g2, fun i hi => (g3 i hi).2.2.2, fun i a b c d => by rw [l2 i a b c, k2 i d]⟩
  obtain ⟨⟨q1, q2, q3, q4⟩, b1, b2, b3, b4, b5⟩ := h i hi
  obtain ⟨r1, r2, r3, r4⟩ := g3 i hi
  obtain ⟨s1, s2, s3⟩ := l3 i hi
  rw [k2 22 (by omega), k3 i hi] at s1 s2 s3
  rw [k2 23 (by omega)] at s2
  rw [k2 24 (by omega)] at s3
  rw [q1, q2, q3] at r1 r2 r3
  rw [q4] at r3
  have lb := loss_bd (st := τ 22 i) b1 b3 hfl (blM_bd h hA2)
  obtain ⟨n1, n2⟩ := newS_eq b2 lb
  rw [n1] at r1 r2 r3
  rw [r4 0 (by omega) (by omega) (by omega), r1, r2, r3, s1, s2, s3, q1, l2 1 (by omega) (by omega) (by omega), k2 1 (by omega)]
  refine ⟨⟨rfl, rfl, rfl, rfl⟩, b1, n2, ?_, ?_, fun e => ?_⟩
  · split
    · exact ⟨0, by omega, rfl⟩
    · exact b3
  · split
    · exact ⟨0, by omega, rfl⟩
    · exact b4
  · simp [e]
set_option maxHeartbeats 1000000 in
theorem inYear_eq {σ τ : Mem} {s y : Nat} (hs : Rsh σ τ) (h4 : s < 4) (hy : y < 2 ^ 30) : ∃ f, fX7_inYear σ (36 + s) (nI y) = some f ∧ fX10_numberOf τ (nI s) (nI y) = some f ∧ Bd f 1000 := by
  obtain ⟨q1, q2, n, hn, q3, q4, q5⟩ := hs s h4
  unfold fX7_inYear fX10_numberOf
  have e5 : (200 : Int32) * nI s + nI y = nI (200 * s + y) := by rw [i200, pk_mul, nI_add]
  simp only [inbN h4 (show 4 < 2 ^ 31 by omega), if_true, cN (show s < 2 ^ 31 by omega), cN (show y < 2 ^ 31 by omega), q3, q4, isW, e5, leN (show n < 2 ^ 31 by omega) (show y < 2 ^ 31 by omega), rf_sh h4]
  rcases q1 with ⟨e1, e2⟩ | ⟨e1, e2⟩
  · simp only [e1, e2, if_true, z10, if_false]
    rcases rng1 (nI y) n (by omega) with ⟨g1, g2⟩ | ⟨k, hk, e, g1⟩
    · have hny : n ≤ y := Nat.not_lt.mp (fun h => g2 y h rfl)
      simp only [g1, if_true, hny]
      exact ⟨0, rfl, rfl, 0, by omega, rfl⟩
    · rw [eqN (by omega) (by omega)] at e
      subst e
      have hny : ¬ n ≤ y := by omega
      simp only [g1, if_false, z10, hny, inbN (show y < 200 by omega) (show 200 < 2 ^ 31 by omega), inbN (show 200 * s + y < 800 by omega) (show 800 < 2 ^ 31 by omega), if_true, cN (show 200 * s + y < 2 ^ 31 by omega)]
      exact ⟨_, rfl, by rw [(q5 y hk).1], by rw [(q5 y hk).1]; exact (q5 y hk).2⟩
  · simp only [e1, e2, if_true, z10, if_false]
    exact ⟨0, rfl, rfl, 0, by omega, rfl⟩
set_option maxHeartbeats 1000000 in
theorem Rel.scratch {Y A P T O Z : Nat} {σ τ σ' τ' : Mem} (h : Rel Y A P T O Z σ τ) (hX : ∀ i, ¬ (26 ≤ i ∧ i < 36) → i ≠ 2 → σ' i = σ i) (hM : ∀ i, i ≠ 22 → i ≠ 23 → i ≠ 24 → i ≠ 25 → τ' i = τ i) : Rel Y A P T O Z σ' τ' := by
  obtain ⟨hx, ha, hp, hr, hs, ht, hu, hb, ho⟩ := h
  refine ⟨?_, ?_, ?_, ?_, ?_, ?_, ?_, ?_, ?_⟩
  · exact hx.cg (by rw [hX 0 (by omega) (by omega)]) (by rw [hM 0 (by omega) (by omega) (by omega) (by omega)]) (by rw [hX 1 (by omega) (by omega)]) (by rw [hM 0 (by omega) (by omega) (by omega) (by omega)]) (by rw [hX 9 (by omega) (by omega)]) (by rw [hM 0 (by omega) (by omega) (by omega) (by omega)]) (by rw [hX 6 (by omega) (by omega)]) (by rw [hM 0 (by omega) (by omega) (by omega) (by omega)]) (by rw [hX 11 (by omega) (by omega)]) (by rw [hM 0 (by omega) (by omega) (by omega) (by omega)]) (by rw [hX 11 (by omega) (by omega)]) (by rw [hM 0 (by omega) (by omega) (by omega) (by omega)])
  · exact ha.cg (fun i hi k hk => by rw [hX (16 + i) (by omega) (by omega)]) (hM 1 (by omega) (by omega) (by omega) (by omega)) (hM 2 (by omega) (by omega) (by omega) (by omega)) (hM 3 (by omega) (by omega) (by omega) (by omega)) (hM 4 (by omega) (by omega) (by omega) (by omega))
  · exact hp.cg (fun i hi => by rw [hX (16 + i) (by omega) (by omega)]) (hM 19 (by omega) (by omega) (by omega) (by omega))
  · exact hr.cg (hX 15 (by omega) (by omega)) (hM 5 (by omega) (by omega) (by omega) (by omega))
  · exact hs.cg (fun i hi => hX (36 + i) (by omega) (by omega)) (fun i hi => hX (40 + i) (by omega) (by omega)) (hM 6 (by omega) (by omega) (by omega) (by omega)) (hM 7 (by omega) (by omega) (by omega) (by omega)) (hM 8 (by omega) (by omega) (by omega) (by omega)) (hM 9 (by omega) (by omega) (by omega) (by omega))
  · exact ht.cg (hX 7 (by omega) (by omega)) (hM 10 (by omega) (by omega) (by omega) (by omega))
  · exact hu.cg (fun i hi => hX (44 + i) (by omega) (by omega)) (fun i hi => hX (64 + i) (by omega) (by omega)) (fun k h1 h2 => hM k (by omega) (by omega) (by omega) (by omega)) (by rw [hM 0 (by omega) (by omega) (by omega) (by omega)])
  · exact hb.cg (hX 12 (by omega) (by omega)) (hM 20 (by omega) (by omega) (by omega) (by omega))
  · exact ho.cg (hX 14 (by omega) (by omega)) (hM 21 (by omega) (by omega) (by omega) (by omega))
set_option maxHeartbeats 1000000 in
theorem like_eq (m : Mem) (i j : Nat) (hij : j ≠ i) : ∃ m', fX0_becomeLike m i j = some m' ∧ (∀ k, k ≠ i → m' k = m k) ∧ m' i 0 = m j 0 ∧ m' i 1 = m j 1 ∧ m' i 2 = m j 2 ∧ m' i 3 = m j 3 := by
  unfold fX0_becomeLike
  simp only [bmE, mg_i hij]
  refine ⟨_, rfl, fun k hk => by rw [mset_ne hk, mset_ne hk, mset_ne hk, mset_ne hk], ?_, ?_, ?_, mg_e⟩
  · rw [mg_k (by omega), mg_k (by omega), mg_k (by omega), mg_e]
  · rw [mg_k (by omega), mg_k (by omega), mg_e]
  · rw [mg_k (by omega), mg_e]
set_option maxHeartbeats 1000000 in
theorem become_eq {σ : Mem} {A : Nat} (hA : σ 1 1 = nI A) (hA2 : A ≤ 10) : ∃ σ', fX2_becomeLike σ 2 1 = some σ' ∧ (∀ i, ¬ (26 ≤ i ∧ i < 36) → i ≠ 2 → σ' i = σ i) ∧ σ' 2 1 = nI A ∧ ∀ i, i < A → σ' (26 + i) 0 = σ (16 + i) 0 ∧ σ' (26 + i) 1 = σ (16 + i) 1 ∧ σ' (26 + i) 2 = σ (16 + i) 2 ∧ σ' (26 + i) 3 = σ (16 + i) 3 := by
  unfold fX2_becomeLike
  rw [bmE, hA]
  obtain ⟨m, ⟨h1, h1', h2⟩, h3⟩ := lp_up (S := Mem) (fun n m i => fX2_becomeLike_10 n m 2 1 i) (fun m => some m) (fun k m => (∀ i, ¬ (26 ≤ i ∧ i < 36) → i ≠ 2 → m i = σ i) ∧ m 2 1 = nI A ∧ ∀ i, i < k → m (26 + i) 0 = σ (16 + i) 0 ∧ m (26 + i) 1 = σ (16 + i) 1 ∧ m (26 + i) 2 = σ (16 + i) 2 ∧ m (26 + i) 3 = σ (16 + i) 3) A
    (fun n m ⟨h1, h1', h2⟩ => by
      show fX2_becomeLike_10 (n + 1) m 2 1 (nI A) = some m
      rw [fX2_becomeLike_10, h1', if_pos (by rw [leN (by omega) (by omega)]; omega)])
    (fun n k m hk ⟨h1, h1', h2⟩ => by
      obtain ⟨m', g1, g2, g3, g4, g5, g6⟩ := like_eq m (26 + k) (16 + k) (by omega)
      rw [h1 (16 + k) (by omega) (by omega)] at g3 g4 g5 g6
      refine ⟨m', ⟨fun i a b => by rw [g2 i (by omega)]; exact h1 i a b, by rw [g2 2 (by omega)]; exact h1', fun i hi => ?_⟩, ?_⟩
      · by_cases e : i = k
        · subst e; exact ⟨g3, g4, g5, g6⟩
        · rw [g2 (26 + i) (by omega)]; exact h2 i (by omega)
      · show fX2_becomeLike_10 (n + 1) m 2 1 (nI k) = _
        rw [fX2_becomeLike_10, h1', if_neg (by rw [leN (by omega) (by omega)]; omega)]
        simp only [inbN (show k < 10 by omega) (show 10 < 2 ^ 31 by omega), if_true, cN (show k < 2 ^ 31 by omega), rf1, rf2, rf3, rf4, g1, boS, nIs])
    300 0 (mset σ 2 1 (nI A)) (by omega) (by omega) ⟨fun i _ h => mset_ne h, mg_e, fun _ h => by omega⟩
  exact ⟨m, h3, h1, h1', h2⟩
set_option maxHeartbeats 1000000 in
theorem told_loop {Y A P T O Z : Nat} {σ0 τ0 : Mem} (h : Rel Y A P T O Z σ0 τ0) {a L : Nat} (ha : a < A) (hL : (L = 200 ∧ 200 < Y + 60) ∨ (L = Y + 60 ∧ Y + 60 ≤ 200)) : ∀ (n d : Nat) (σ τ : Mem), d + (Y + 1) ≤ 301 → L + 1 - (Y + 1 + d) < n → (∀ i, ¬ (26 ≤ i ∧ i < 36) → i ≠ 2 → σ i = σ0 i) → (∀ i, i ≠ 22 → i ≠ 23 → i ≠ 24 → i ≠ 25 → τ i = τ0 i) → σ 2 1 = nI A → Shd 26 A σ τ →
    ∃ r σ' τ', fX9_yearOfFall_51 n σ (nI a) (nI L) (nI (Y + 1 + d)) = some (r, σ') ∧ fX10_toldOf_23 n τ (nI a) (nI (Y + 1 + d)) = some (r, τ') ∧ (∀ i, ¬ (26 ≤ i ∧ i < 36) → i ≠ 2 → σ' i = σ0 i) ∧ (∀ i, i ≠ 22 → i ≠ 23 → i ≠ 24 → i ≠ 25 → τ' i = τ0 i) := by
  have hrel := h
  obtain ⟨hx, har, hp, hr, hs, ht, hu, hb, ho⟩ := h
  obtain ⟨⟨y1, y2, y3⟩, ⟨a1, a2, a3⟩, -⟩ := hx
  intro n
  induction n with
  | zero => intro d σ τ _ h; omega
  | succ n ih =>
    intro d σ τ hd hn hX hM h2 hS
    rw [fX9_yearOfFall_51, fX10_toldOf_23]
    have e1 : (nI L < nI (Y + 1 + d)) = (L < Y + 1 + d) := ltN (by omega) (by omega)
    have e2 : ((200 : Int32) < nI (Y + 1 + d)) = (200 < Y + 1 + d) := ltN (a := 200) (by omega) (by omega)
    have e3 : (τ 0 0 + 60 < nI (Y + 1 + d)) = (Y + 60 < Y + 1 + d) := by
      rw [hM 0 (by omega) (by omega) (by omega) (by omega), y2]
      show (nI Y + nI 60 < _) = _
      rw [nI_add]; exact ltN (by omega) (by omega)
    simp only [e1, e2, e3]
    by_cases c : L < Y + 1 + d
    · rw [if_pos c]
      by_cases c2 : 200 < Y + 1 + d
      · rw [if_pos c2]; exact ⟨_, σ, τ, rfl, rfl, hX, hM⟩
      · rw [if_neg c2, if_pos (show Y + 60 < Y + 1 + d by omega)]; exact ⟨_, σ, τ, rfl, rfl, hX, hM⟩
    · rw [if_neg c, if_neg (show ¬ 200 < Y + 1 + d by omega), if_neg (show ¬ Y + 60 < Y + 1 + d by omega)]
      have hs' : Rsh σ τ := hs.cg (fun i hi => hX (36 + i) (by omega) (by omega)) (fun i hi => hX (40 + i) (by omega) (by omega)) (hM 6 (by omega) (by omega) (by omega) (by omega)) (hM 7 (by omega) (by omega) (by omega) (by omega)) (hM 8 (by omega) (by omega) (by omega) (by omega)) (hM 9 (by omega) (by omega) (by omega) (by omega))
      obtain ⟨f, f1, f2, f3⟩ := inYear_eq (s := 0) (y := Y + 1 + d) hs' (by omega) (by omega)
      obtain ⟨σ', τ1, τ', g1, g2, g3, g4, g5, g6, g7⟩ := year_step (b := 2) (B := 26) (fun k => by rw [rf2, rf4]) (by omega) h2 (by rw [hM 0 (by omega) (by omega) (by omega) (by omega)]; exact a2) a3 hS f2 f3
      have f1' : fX7_inYear σ 36 (nI (Y + 1 + d)) = some f := f1
      rw [f1', boS, g1, boS, g2, boS, g3, boS]
      have hX' : ∀ i, ¬ (26 ≤ i ∧ i < 36) → i ≠ 2 → σ' i = σ0 i := fun i a b => by rw [g5 i (by omega)]; exact hX i a b
      have hM' : ∀ i, i ≠ 22 → i ≠ 23 → i ≠ 24 → i ≠ 25 → τ' i = τ0 i := fun i a b c d => by rw [g7 i a b c d]; exact hM i a b c d
      have q := (g4 a ha).1.2.1
      unfold fX0_isFallen
      simp only [inbN (show a < 10 by omega) (show 10 < 2 ^ 31 by omega), if_true, cN (show a < 2 ^ 31 by omega), rf4, q, nIs]
      by_cases c5 : τ' 22 a = 0
      · simp only [c5, if_true, z10, if_false]; exact ⟨_, σ', τ', rfl, rfl, hX', hM'⟩
      · simp only [c5, if_true, if_false]
        exact ih (d + 1) σ' τ' (by omega) (by omega) hX' hM' (by rw [g5 2 (by omega)]; exact h2) g4
set_option maxHeartbeats 1000000 in
theorem op_about {σ τ : Mem} (v1 v2 : Int32) (h : RelE σ τ) : Op2 (fX9_about σ v1 v2) (fX10_about τ v1 v2) := by
  have h0 := h
  obtain ⟨Y, A, P, T, O, Z, hx, ha, hp, hr, hs, ht, hu, hb, ho⟩ := h
  have hxx := hx
  obtain ⟨⟨y1, y2, y3⟩, ⟨a1, a2, a3⟩, ⟨p1, p2, p3, p4⟩, ⟨t1, t2, t3⟩, ⟨o1, o2, o3⟩, ⟨z1, z2, z3⟩⟩ := hxx
  unfold fX9_about fX10_about
  rcases has_or v1 a1 a2 a3 with ⟨e1, e2⟩ | ⟨a, hA, rfl, e1, e2⟩
  · simp only [e1, e2, if_true]; exact Op2.same h0
  have hrel : Rel Y A P T O Z σ τ := ⟨hx, ha, hp, hr, hs, ht, hu, hb, ho⟩
  obtain ⟨⟨q1, q2, q3, q4⟩, b1, b2, b3, b4, b5⟩ := ha a (by omega)
  have ca := cN (show a < 2 ^ 31 by omega)
  have ia := inbN (show a < 10 by omega) (by omega)
  simp only [e1, e2, z10, if_false, ia, ca, if_true, rf3]
  rcases rng v2 0 7 (by omega) (by omega) with ⟨h1, h2⟩ | ⟨k, -, hk, rfl⟩
  · have e3 : fX10_isIn τ v2 0 7 = 0 := by rw [isI]; exact if_pos h1
    have n0 : ¬ v2 = 0 := h2 0 (by omega) (by omega)
    have n1 : ¬ v2 = 1 := h2 1 (by omega) (by omega)
    have n2 : ¬ v2 = 2 := h2 2 (by omega) (by omega)
    have n3 : ¬ v2 = 3 := h2 3 (by omega) (by omega)
    have n4 : ¬ v2 = 4 := h2 4 (by omega) (by omega)
    have n5 : ¬ v2 = 5 := h2 5 (by omega) (by omega)
    have n6 : ¬ v2 = 6 := h2 6 (by omega) (by omega)
    have n7 : ¬ v2 = 7 := h2 7 (by omega) (by omega)
    simp only [e3, n0, n1, n2, n3, n4, n5, n6, n7, if_true, if_false]; exact Op2.same h0
  have e3 : fX10_isIn τ (nI k) 0 7 = 1 := by
    rw [isI]; exact if_neg (by rw [i0, i7, ltN (by omega) (by omega), ltN (by omega) (by omega)]; omega)
  have kk : ∀ (j : Nat) (z : Int32), z = nI j → j ≤ 7 → (nI k = z) = (k = j) := fun j z e hj => by rw [e]; exact eqN (by omega) (by omega)
  simp only [e3, z10, if_false, kk 0 0 rfl (by omega), kk 1 1 rfl (by omega), kk 2 2 rfl (by omega), kk 3 3 rfl (by omega), kk 4 4 rfl (by omega), kk 5 5 rfl (by omega), kk 6 6 rfl (by omega), kk 7 7 rfl (by omega)]
  by_cases c0 : k = 0
  · rw [if_pos c0, if_pos c0, q1]; exact Op2.same h0
  rw [if_neg c0, if_neg c0]
  by_cases c1 : k = 1
  · rw [if_pos c1, if_pos c1, q2]; exact Op2.same h0
  rw [if_neg c1, if_neg c1]
  by_cases c2 : k = 2
  · rw [if_pos c2, if_pos c2, q3]; exact Op2.same h0
  rw [if_neg c2, if_neg c2]
  by_cases c3 : k = 3
  · rw [if_pos c3, if_pos c3, q4]; exact Op2.same h0
  rw [if_neg c3, if_neg c3]
  by_cases c4 : k = 4
  · rw [if_pos c4, if_pos c4]
    unfold fX0_isFallen
    rw [q2]
    by_cases d : τ 2 a = 0
    · simp only [d, if_true, z10, if_false]; exact Op2.same h0
    · simp only [d, if_true, if_false]; exact Op2.same h0
  rw [if_neg c4, if_neg c4]
  obtain ⟨τ1, g1, g2, g3⟩ := asItIs_eq (τ := τ) a2 a3
  have hM1 : ∀ i, i ≠ 22 → i ≠ 23 → i ≠ 24 → i ≠ 25 → τ1 i = τ i := fun i a b c _ => g2 i a b c
  have hS16 : Shd 16 A σ τ1 := fun i hi => by
    obtain ⟨r1, r2, r3⟩ := g3 i hi
    rw [r1, r2, r3, g2 1 (by omega) (by omega) (by omega)]; exact ha i (by omega)
  by_cases c5 : k = 5
  · rw [if_pos c5, if_pos c5, g1, boS]
    obtain ⟨f, f1, f2, f3⟩ := inYear_eq (s := 0) (y := Y) hs (by omega) (by omega)
    have f1' : fX7_inYear σ 36 (nI Y) = some f := f1
    have f2' : fX10_numberOf τ1 0 (nI Y) = some f := by
      have : fX10_numberOf τ1 (nI 0) (nI Y) = fX10_numberOf τ (nI 0) (nI Y) := by
        unfold fX10_numberOf; rw [hM1 6 (by omega) (by omega) (by omega) (by omega), hM1 8 (by omega) (by omega) (by omega) (by omega), hM1 9 (by omega) (by omega) (by omega) (by omega)]
      exact this.trans f2
    have y2' : τ1 0 0 = nI Y := by rw [g2 0 (by omega) (by omega) (by omega)]; exact y2
    obtain ⟨τ2, l1, l2, l3⟩ := losses_eq (τ := τ1) (A := A) (y := nI Y) (by rw [g2 0 (by omega) (by omega) (by omega)]; exact a2) a3 f2'
    rw [y1, y2', f1', boS, blocked_eq (b := 1) (B := 16) (fun k => by rw [rf1, rf3]) a1 a3, boS, l1, boS]
    have e9 : τ2 25 a = fX0_loss σ (16 + a) f (smI (fun i => σ (16 + i) 3) A + smI (fun i => if σ (16 + i) 1 = 0 then 1 else 0) A) := by
      obtain ⟨r1, r2, r3⟩ := g3 a hA
      rw [loss_eq, bl_eq hS16, l3 a hA, q1, q2, q3, r1, r2, g2 1 (by omega) (by omega) (by omega)]
    rw [e9]
    exact ⟨_, σ, τ2, rfl, rfl, Y, A, P, T, O, Z, hrel.scratch (fun _ _ _ => rfl) (fun i a b c d => by rw [l2 i d]; exact g2 i a b c)⟩
  rw [if_neg c5, if_neg c5]
  by_cases c6 : k = 6
  · rw [if_pos c6, if_pos c6]
    unfold fX9_yearOfFall fX10_toldOf fX0_isFallen
    obtain ⟨r1, r2, r3⟩ := g3 a hA
    simp only [ia, ca, if_true, rf3, q2, g1, boS, r1]
    by_cases d : τ 2 a = 0
    · simp only [d, if_true, z10, if_false, boS]
      exact ⟨_, σ, τ1, rfl, rfl, Y, A, P, T, O, Z, hrel.scratch (fun _ _ _ => rfl) hM1⟩
    · simp only [d, if_true, if_false]
      obtain ⟨σ1, s1, s2, s3, s4⟩ := become_eq (σ := σ) a1 a3
      have hS : Shd 26 A σ1 τ1 := fun i hi => by
        obtain ⟨r1, r2, r3⟩ := g3 i hi
        obtain ⟨w1, w2, w3, w4⟩ := s4 i hi
        rw [r1, r2, r3, w1, w2, w3, w4, g2 1 (by omega) (by omega) (by omega)]; exact ha i (by omega)
      rw [s1, boS, biE, biE, biE, s2 0 (by omega) (by omega), y1, g2 0 (by omega) (by omega) (by omega), y2, nIs]
      have e7 : (if (200 : Int32) < nI Y + 60 then (200 : Int32) else nI Y + 60) = nI (if 200 < Y + 60 then 200 else Y + 60) := by
        have : nI Y + 60 = nI (Y + 60) := nI_add Y 60
        rw [this]
        have e8 : ((200 : Int32) < nI (Y + 60)) = (200 < Y + 60) := ltN (a := 200) (by omega) (by omega)
        simp only [e8]
        by_cases c : 200 < Y + 60
        · rw [if_pos c, if_pos c]; rfl
        · rw [if_neg c, if_neg c]
      rw [e7]
      obtain ⟨r, σ2, τ2, t5, t6, t7, t8⟩ := told_loop (L := if 200 < Y + 60 then 200 else Y + 60) hrel hA (by split <;> omega) 300 0 σ1 τ1 (by omega) (by split <;> omega) s2 hM1 s3 hS
      rw [Nat.add_zero] at t5 t6
      rw [t5, t6, boS, boS]
      exact ⟨r, σ2, τ2, rfl, rfl, Y, A, P, T, O, Z, hrel.scratch t7 t8⟩
  rw [if_neg c6, if_neg c6, if_pos (show k = 7 by omega), mspent_eq (by omega) p2 p4, boS, hp.1 a (by omega)]
  exact Op2.same h0
