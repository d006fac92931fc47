-- ===== the relation between the class's memory σ and the reference's τ =====
def Bd (x : Int32) (n : Nat) : Prop := ∃ k, k ≤ n ∧ x = nI k
theorem Bd.w {x : Int32} {n m : Nat} (h : Bd x n) (hm : n ≤ m) : Bd x m := by
  obtain ⟨k, h1, h2⟩ := h
  exact ⟨k, by omega, h2⟩
def Rix (Y A P T O Z : Nat) (σ τ : Mem) : Prop :=
  (σ 0 9 = nI Y ∧ τ 0 0 = nI Y ∧ Y ≤ 200) ∧ (σ 1 1 = nI A ∧ τ 0 1 = nI A ∧ A ≤ 10) ∧ (σ 9 1 = nI P ∧ τ 0 13 = nI P ∧ 1 ≤ P ∧ P ≤ 20) ∧ (σ 6 1 = nI T ∧ τ 0 12 = nI T ∧ T ≤ 48) ∧ (σ 11 1 = nI O ∧ τ 0 24 = nI O ∧ O < 200) ∧ (σ 11 2 = nI Z ∧ τ 0 25 = nI Z ∧ Z ≤ 200)
def Rar (σ τ : Mem) : Prop := ∀ i, i < 10 → (σ (16 + i) 0 = τ 1 i ∧ σ (16 + i) 1 = τ 2 i ∧ σ (16 + i) 2 = τ 3 i ∧ σ (16 + i) 3 = τ 4 i) ∧ Bd (τ 1 i) 3 ∧ Bd (τ 2 i) 1000 ∧ Bd (τ 3 i) 4 ∧ Bd (τ 4 i) 1 ∧ (τ 2 i = 0 → τ 3 i = 0 ∧ τ 4 i = 0)
/-- what was spent at an arch -/
def Rpd (P : Nat) (σ τ : Mem) : Prop := (∀ i, i < 10 → σ (16 + i) 4 = smI (fun p => τ 19 (12 * p + (2 + i))) P) ∧ ∀ p e, P ≤ p → p < 20 → e < 12 → τ 19 (12 * p + e) = 0
def Rru (σ τ : Mem) : Prop := ∀ k, k < 6 → σ 15 k = τ 5 k ∧ Bd (τ 5 k) (if k = 5 then 1000 else if k = 4 then 10 else 100)
def Rsh (σ τ : Mem) : Prop := ∀ s, s < 4 → ((σ (36 + s) 1 = 0 ∧ τ 6 s = 1) ∨ (σ (36 + s) 1 = 1 ∧ τ 6 s = 0)) ∧ σ (36 + s) 2 = τ 7 s ∧ ∃ n, n ≤ 200 ∧ σ (36 + s) 3 = nI n ∧ τ 8 s = nI n ∧ ∀ j, j < n → σ (40 + s) j = τ 9 (200 * s + j) ∧ Bd (τ 9 (200 * s + j)) 1000
def Rtp (T : Nat) (σ τ : Mem) : Prop := ∀ j, j < T → σ 7 j = (τ 10 j).toInt8.toInt32 ∧ ∃ b, b < 256 ∧ τ 10 j = nI b
/-- how many purses there are, at most 20 -/
def np20 (x : Int32) : Nat := min 20 x.toNatClampNeg
theorem np20_le (x : Int32) : np20 x ≤ 20 := Nat.min_le_left _ _
theorem np20_nI {P : Nat} (h : P ≤ 20) : np20 (nI P) = P := by unfold np20; rw [cN (by omega)]; omega
def Rpu (Y A : Nat) (σ τ : Mem) : Prop := ∀ p, p < 20 → (σ (44 + p) 1 = τ 11 p ∧ σ (44 + p) 2 = τ 12 p ∧ σ (44 + p) 3 = τ 13 p ∧ σ (44 + p) 4 = τ 15 p ∧ σ (44 + p) 5 = τ 14 p ∧ σ (44 + p) 6 = τ 16 p ∧ σ (44 + p) 7 = τ 17 p ∧ σ (44 + p) 8 = τ 18 p) ∧ (∀ e, e < 12 → σ (64 + p) e = τ 19 (12 * p + e)) ∧ Bd (τ 11 p) (3 + A) ∧ Bd (τ 12 p) 200 ∧ Bd (τ 13 p) 200 ∧ Bd (τ 15 p) 9999 ∧ Bd (τ 14 p) 1 ∧ Bd (τ 16 p) (if p = 0 then 400000 * Y else 10000 * (Y + 1 + np20 (τ 0 13)))
def Rbk (σ τ : Mem) : Prop := ∀ j, j < 800 → σ 12 j = τ 20 j
def Rro (σ τ : Mem) : Prop := ∀ j, j < 1407 → σ 14 j = τ 21 j
def Rel (Y A P T O Z : Nat) (σ τ : Mem) : Prop := Rix Y A P T O Z σ τ ∧ Rar σ τ ∧ Rpd P σ τ ∧ Rru σ τ ∧ Rsh σ τ ∧ Rtp T σ τ ∧ Rpu Y A σ τ ∧ Rbk σ τ ∧ Rro σ τ
def RelE (σ τ : Mem) : Prop := ∃ Y A P T O Z, Rel Y A P T O Z σ τ
theorem Rix.cg {Y A P T O Z : Nat} {σ σ' τ τ' : Mem} (h : Rix Y A P T O Z σ τ) (e1 : σ' 0 9 = σ 0 9) (e2 : τ' 0 0 = τ 0 0) (e3 : σ' 1 1 = σ 1 1) (e4 : τ' 0 1 = τ 0 1) (e5 : σ' 9 1 = σ 9 1) (e6 : τ' 0 13 = τ 0 13) (e7 : σ' 6 1 = σ 6 1) (e8 : τ' 0 12 = τ 0 12) (e9 : σ' 11 1 = σ 11 1) (e10 : τ' 0 24 = τ 0 24) (e11 : σ' 11 2 = σ 11 2) (e12 : τ' 0 25 = τ 0 25) : Rix Y A P T O Z σ' τ' := by
  unfold Rix
  rw [e1, e2, e3, e4, e5, e6, e7, e8, e9, e10, e11, e12]; exact h
theorem Rar.cg {σ σ' τ τ' : Mem} (h : Rar σ τ) (h1 : ∀ i, i < 10 → ∀ k, k < 4 → σ' (16 + i) k = σ (16 + i) k) (a : τ' 1 = τ 1) (b : τ' 2 = τ 2) (c : τ' 3 = τ 3) (d : τ' 4 = τ 4) : Rar σ' τ' := by
  intro i hi
  rw [h1 i hi 0 (by omega), h1 i hi 1 (by omega), h1 i hi 2 (by omega), h1 i hi 3 (by omega), a, b, c, d]; exact h i hi
theorem Rpd.cg {P : Nat} {σ σ' τ τ' : Mem} (h : Rpd P σ τ) (h1 : ∀ i, i < 10 → σ' (16 + i) 4 = σ (16 + i) 4) (a : τ' 19 = τ 19) : Rpd P σ' τ' := by
  refine ⟨fun i hi => ?_, ?_⟩
  · rw [h1 i hi, a]; exact h.1 i hi
  · rw [a]; exact h.2
theorem Rru.cg {σ σ' τ τ' : Mem} (h : Rru σ τ) (h1 : σ' 15 = σ 15) (a : τ' 5 = τ 5) : Rru σ' τ' := by
  intro k hk
  rw [h1, a]; exact h k hk
theorem Rsh.cg {σ σ' τ τ' : Mem} (h : Rsh σ τ) (h1 : ∀ s, s < 4 → σ' (36 + s) = σ (36 + s)) (h2 : ∀ s, s < 4 → σ' (40 + s) = σ (40 + s)) (a : τ' 6 = τ 6) (b : τ' 7 = τ 7) (c : τ' 8 = τ 8) (d : τ' 9 = τ 9) : Rsh σ' τ' := by
  intro s hs
  rw [h1 s hs, h2 s hs, a, b, c, d]; exact h s hs
theorem Rtp.cg {T : Nat} {σ σ' τ τ' : Mem} (h : Rtp T σ τ) (h1 : σ' 7 = σ 7) (a : τ' 10 = τ 10) : Rtp T σ' τ' := by
  intro j hj
  rw [h1, a]; exact h j hj
theorem Rpu.cg {Y A : Nat} {σ σ' τ τ' : Mem} (h : Rpu Y A σ τ) (h1 : ∀ p, p < 20 → σ' (44 + p) = σ (44 + p)) (h2 : ∀ p, p < 20 → σ' (64 + p) = σ (64 + p)) (a : ∀ k, 11 ≤ k → k ≤ 19 → τ' k = τ k) (b : τ' 0 13 = τ 0 13) : Rpu Y A σ' τ' := by
  intro p hp
  rw [h1 p hp, h2 p hp, a 11 (by omega) (by omega), a 12 (by omega) (by omega), a 13 (by omega) (by omega), a 14 (by omega) (by omega), a 15 (by omega) (by omega), a 16 (by omega) (by omega), a 17 (by omega) (by omega), a 18 (by omega) (by omega), a 19 (by omega) (by omega), b]; exact h p hp
theorem Rbk.cg {σ σ' τ τ' : Mem} (h : Rbk σ τ) (h1 : σ' 12 = σ 12) (a : τ' 20 = τ 20) : Rbk σ' τ' := by
  intro j hj
  rw [h1, a]; exact h j hj
theorem Rro.cg {σ σ' τ τ' : Mem} (h : Rro σ τ) (h1 : σ' 14 = σ 14) (a : τ' 21 = τ 21) : Rro σ' τ' := by
  intro j hj
  rw [h1, a]; exact h j hj
/-- what a call must show: like answers, and the relation again -/
def Op2 (a b : Option (Int32 × Mem)) : Prop := ∃ r σ' τ', a = some (r, σ') ∧ b = some (r, τ') ∧ RelE σ' τ'
def Op1 (a b : Option Int32) : Prop := ∃ r, a = some r ∧ b = some r
theorem Op2.same {σ τ : Mem} {r : Int32} (h : RelE σ τ) : Op2 (some (r, σ)) (some (r, τ)) := ⟨r, σ, τ, rfl, rfl, h⟩
theorem Op1.same {r : Int32} : Op1 (some r) (some r) := ⟨r, rfl, rfl⟩
set_option maxHeartbeats 1000000 in
theorem op_trim {σ τ : Mem} (v : Int32) (h : RelE σ τ) : Op2 (fX9_trim σ v) (fX10_trim τ v) := by
  have h0 := h
  obtain ⟨Y, A, P, T, O, Z, hx, ha, hp, hr, hs, ht, hu, hb, ho⟩ := h
  obtain ⟨⟨y1, y2, y3⟩, ⟨a1, a2, a3⟩, ⟨p1, p2, p3, p4⟩, ⟨t1, t2, t3⟩, ⟨o1, o2, o3⟩, ⟨z1, z2, z3⟩⟩ := hx
  unfold fX9_trim fX10_trim
  rw [isW, isI, t1, t2, i0]
  rcases rng v 0 T (by omega) (by omega) with ⟨h1, -⟩ | ⟨k, -, hk, rfl⟩
  · simp only [h1, if_true]; exact Op2.same h0
  · have h2 : ¬ (nI k < nI 0 ∨ nI T < nI k) := by rw [ltN (by omega) (by omega), ltN (by omega) (by omega)]; omega
    simp only [h2, if_false, bm]
    refine ⟨nI k, _, _, rfl, rfl, Y, A, P, k, O, Z, ?_, ?_, ?_, ?_, ?_, ?_, ?_, ?_, ?_⟩
    · simp [Rix, mg, *]; omega
    · exact ha.cg (fun i hi k hk => mg_i (by omega)) rfl rfl rfl rfl
    · exact hp.cg (fun i hi => mg_i (by omega)) rfl
    · exact hr.cg rfl rfl
    · exact hs.cg (fun i hi => mset_ne (by omega)) (fun i hi => mset_ne (by omega)) rfl rfl rfl rfl
    · exact fun j hj => (Rtp.cg (T := T) ht rfl rfl) j (by omega)
    · exact hu.cg (fun i hi => mset_ne (by omega)) (fun i hi => mset_ne (by omega)) (fun k h1 h2 => mset_ne (by omega)) (mg_k (by omega))
    · exact hb.cg rfl rfl
    · exact ho.cg rfl rfl
