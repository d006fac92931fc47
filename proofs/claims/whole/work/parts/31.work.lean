set_option maxHeartbeats 1000000 in
theorem add_eq {σ : Mem} {Y k : Nat} (x : Int32) (hY : Y ≤ 200) (hk : k ≤ 6) : fX6_add σ (nI Y) (nI k) x = some (mset σ 14 (7 * Y + k) (σ 14 (7 * Y + k) + x)) := by
  unfold fX6_add
  have e5 : nI Y * (7 : Int32) + nI k = nI (7 * Y + k) := by rw [i7, pk_mul, nI_add, Nat.mul_comm]
  simp only [e5, inbN (show 7 * Y + k < 1407 by omega) (show 1407 < 2 ^ 31 by omega), if_true, cN (show 7 * Y + k < 2 ^ 31 by omega), bmE]
theorem told_eq {τ : Mem} {Y k : Nat} (x : Int32) (hy : τ 0 0 = nI Y) (hY : Y ≤ 200) (hk : k ≤ 6) : fX10_told τ (nI k) x = some (mset τ 21 (7 * Y + k) (τ 21 (7 * Y + k) + x)) := by
  unfold fX10_told
  have e5 : (7 : Int32) * nI Y + nI k = nI (7 * Y + k) := by rw [i7, pk_mul, nI_add]
  simp only [hy, e5, inbN (show 7 * Y + k < 1407 by omega) (show 1407 < 2 ^ 31 by omega), if_true, cN (show 7 * Y + k < 2 ^ 31 by omega), bmE]
theorem Rro.add {σ τ : Mem} (h : Rro σ τ) (k : Nat) (hk : k < 1407) (x : Int32) : Rro (mset σ 14 k (σ 14 k + x)) (mset τ 21 k (τ 21 k + x)) := by
  intro j hj
  by_cases e : j = k
  · subst e; rw [mg_e, mg_e, h j hj]
  · rw [mg_k e, mg_k e]; exact h j hj
/-- what holds behind the taking of c coins for the end e -/
def Tk2 (Y A P e : Nat) (σ0 τ0 σ τ : Mem) (d : Nat) : Prop :=
  Rpu Y A σ τ ∧ Rbk σ τ ∧ (∃ O Z, (σ 11 1 = nI O ∧ τ 0 24 = nI O ∧ O < 200) ∧ (σ 11 2 = nI Z ∧ τ 0 25 = nI Z ∧ Z ≤ 200)) ∧ Rro σ τ ∧
  (∀ i, i ≠ 11 → i ≠ 12 → i ≠ 14 → ¬ (44 ≤ i ∧ i < 84) → σ i = σ0 i) ∧ (∀ i, i ≠ 0 → i ≠ 16 → i ≠ 19 → i ≠ 20 → i ≠ 21 → τ i = τ0 i) ∧ (∀ k, k ≠ 24 → k ≠ 25 → τ 0 k = τ0 0 k) ∧
  (∀ p f, p < 20 → f < 12 → f ≠ e → τ 19 (12 * p + f) = τ0 19 (12 * p + f)) ∧ (∀ p, P ≤ p → p < 20 → τ 19 (12 * p + e) = τ0 19 (12 * p + e)) ∧ smI (fun p => τ 19 (12 * p + e)) P = smI (fun p => τ0 19 (12 * p + e)) P + nI d
set_option maxHeartbeats 1000000 in
theorem take_all {Y A P T O Z e w : Nat} {σ τ : Mem} (h : Rel Y A P T O Z σ τ) (he : e < 12) (hw : w < 2 ^ 31) : ∃ σ' τ', fX9_takeCoins σ (nI e) (nI w) = some (nI (min w (smN (fp σ (nI e) (nI Y)) P)), σ') ∧ fX10_taken τ (nI e) (nI (min w (smN (fp σ (nI e) (nI Y)) P))) = some τ' ∧ Tk2 Y A P e σ τ σ' τ' (min w (smN (fp σ (nI e) (nI Y)) P)) := by
  obtain ⟨hx, ha, hp, hr, hs, ht, hu, hb, ho⟩ := h
  obtain ⟨⟨y1, y2, y3⟩, ⟨a1, a2, a3⟩, ⟨p1, p2, p3, p4⟩, ⟨t1, t2, t3⟩, ⟨o1, o2, o3⟩, ⟨z1, z2, z3⟩⟩ := hx
  obtain ⟨c, hc⟩ : ∃ c, c = min w (smN (fp σ (nI e) (nI Y)) P) := ⟨_, rfl⟩
  rw [← hc]
  have hT : Tk Y A P e σ τ σ τ 0 := ⟨hu, hb, ⟨O, Z, ⟨o1, o2, o3⟩, ⟨z1, z2, z3⟩⟩, fun _ _ _ _ => rfl, fun _ _ _ _ _ => rfl, fun _ _ _ => rfl, fun _ _ _ _ _ => rfl, fun _ _ _ => rfl, by rw [nI_0, Int32.add_zero]⟩
  have hcnt : ∀ n, smN (np σ (nI e) (nI Y)) n ≤ n := by
    intro n
    induction n with
    | zero => simp [smN]
    | succ n ih =>
      rw [smN]
      have : np σ (nI e) (nI Y) n ≤ 1 := by unfold np; split <;> omega
      omega
  obtain ⟨σ1, τ1, l2, g1, g2, g3, g4⟩ := take_loop (Y := Y) (A := A) (P := P) (e := e) (w := w) (c := c) y3 a3 p4 he hw (by omega) y1 y2 p1 p2 300 0 σ τ w c 0 (by omega) (by omega) hT (by omega) (by omega) hc (Or.inr (by have := hcnt P; omega))
  unfold fX9_takeCoins fX10_taken
  have g1' : fX9_takeCoins_5 300 σ (nI e) (nI w) (nI w) 0 = fX9_takeCoins_101 σ1 (nI e) (nI w) (nI l2) := g1
  rw [g1', g2]
  obtain ⟨hu', hb', hoz, hX, hM, hM0, k4, k5, k6⟩ := g4
  have y1' : σ1 0 9 = nI Y := by rw [hX 0 (by omega) (by omega) (by omega)]; exact y1
  have y2' : τ1 0 0 = nI Y := by rw [hM0 0 (by omega) (by omega)]; exact y2
  have ek : ∃ k, k ≤ 6 ∧ (3 : Int32) + (if (2 : Int32) < nI e then 2 else nI e) = nI k ∧ fX10_taken_146 τ1 (nI e) (nI c) = bo (fX10_told τ1 (nI k) (nI c)) (fun z => some z) := by
    unfold fX10_taken_146 fX10_taken_159
    have f1 : ((2 : Int32) < nI e) = (2 < e) := ltN (a := 2) (by omega) (by omega)
    have f2 : ((2 : Int32) ≤ nI e) = (2 ≤ e) := leN (a := 2) (by omega) (by omega)
    simp only [f1, f2]
    by_cases c1 : 2 < e
    · rw [if_pos c1, if_pos (show 2 ≤ e by omega)]; exact ⟨5, by omega, by decide, rfl⟩
    · by_cases c2 : 2 ≤ e
      · have : e = 2 := by omega
        subst this
        rw [if_neg c1, if_pos c2]; exact ⟨5, by omega, by decide, rfl⟩
      · rw [if_neg c1, if_neg c2]
        have e3 : (3 : Int32) + nI e = nI (3 + e) := nI_add 3 e
        rw [e3]; exact ⟨3 + e, by omega, rfl, rfl⟩
  obtain ⟨k, hk, e1, e2⟩ := ek
  unfold fX9_takeCoins_101
  rw [e1, e2, y1', add_eq _ y3 hk, told_eq _ y2' y3 hk, boS, boS, pk_sub (show l2 ≤ w by omega), show w - l2 = c by omega]
  have ho1 : Rro σ1 τ1 := ho.cg (hX 14 (by omega) (by omega) (by omega)) (hM 21 (by omega) (by omega) (by omega) (by omega))
  refine ⟨_, _, rfl, rfl, ?_, ?_, ?_, ho1.add _ (by omega) (nI c), fun i a b d f => ?_, fun i a b d f g => ?_, fun k a b => ?_, fun p f a b d => ?_, fun p a b => ?_, ?_⟩
  · exact hu'.cg (fun i hi => mset_ne (by omega)) (fun i hi => mset_ne (by omega)) (fun k a b => mset_ne (by omega)) (mg_i (by omega))
  · exact hb'.cg (mset_ne (by omega)) (mset_ne (by omega))
  · obtain ⟨O', Z', ⟨w1, w2, w3⟩, ⟨w4, w5, w6⟩⟩ := hoz
    exact ⟨O', Z', ⟨by rw [mg_i (by omega)]; exact w1, by rw [mg_i (by omega)]; exact w2, w3⟩, ⟨by rw [mg_i (by omega)]; exact w4, by rw [mg_i (by omega)]; exact w5, w6⟩⟩
  · rw [mset_ne d]; exact hX i a b f
  · rw [mset_ne g]; exact hM i a b d f
  · rw [mg_i (by omega)]; exact hM0 k a b
  · rw [mg_i (by omega)]; exact k4 p f a b d
  · rw [mg_i (by omega)]; exact k5 p a b
  · rw [mset_ne (show (19 : Nat) ≠ 21 by omega)]; exact k6
set_option maxHeartbeats 1000000 in
theorem op_spend {σ τ : Mem} (v1 v2 : Int32) (h : RelE σ τ) : Op2 (fX9_spend σ v1 v2) (fX10_spend τ v1 v2) := by
  have h0 := h
  obtain ⟨Y, A, P, T, O, Z, hx, ha, hp, hr, hs, ht, hu, hb, ho⟩ := h
  have hxx := hx
  obtain ⟨⟨y1, y2, y3⟩, ⟨a1, a2, a3⟩, ⟨p1, p2, p3, p4⟩, ⟨t1, t2, t3⟩, ⟨o1, o2, o3⟩, ⟨z1, z2, z3⟩⟩ := hxx
  have hrel : Rel Y A P T O Z σ τ := ⟨hx, ha, hp, hr, hs, ht, hu, hb, ho⟩
  unfold fX9_spend fX10_spend
  rcases win_or σ τ v1 0 1 (lo := 0) (hi := 1) rfl rfl (by omega) (by omega) with ⟨e1, e2⟩ | ⟨e, -, he, rfl, e1, e2⟩
  · simp only [e1, e2, if_true]; exact Op2.same h0
  simp only [e1, e2, z10, if_false]
  rcases win_or σ τ v2 1 100000 (lo := 1) (hi := 100000) rfl rfl (by omega) (by omega) with ⟨e3, e4⟩ | ⟨n, hn1, hn2, rfl, e3, e4⟩
  · simp only [e3, e4, if_true]; exact Op2.same h0
  simp only [e3, e4, z10, if_false]
  have hF : smI (fun p => if fX5_canPay σ (44 + p) (nI e) (nI Y) = 0 then 0 else σ (44 + p) 6) P = nI (smN (fp σ (nI e) (nI Y)) P) := funds_nI (nI e) (nI Y) hu y3 p4
  have hFb := fp_bd (nI e) (nI Y) hu y3 P p4
  rw [y1, coinsFor_eq (nI e) (nI Y) p1 p4, mfunds_eq (nI e) hx hu, boS, boS, funds_nI (nI e) (nI Y) hu y3 p4, hF]
  have f1 : (nI n ≤ nI (smN (fp σ (nI e) (nI Y)) P)) = (n ≤ smN (fp σ (nI e) (nI Y)) P) := leN (by omega) (by omega)
  simp only [f1]
  by_cases c : n ≤ smN (fp σ (nI e) (nI Y)) P
  · rw [if_pos c, if_pos c]
    obtain ⟨σ', τ', g1, g2, hu', hb', ⟨O', Z', oo, zz⟩, ho', hX, hM, hM0, k4, k5, k6⟩ := take_all hrel (show e < 12 by omega) (show n < 2 ^ 31 by omega)
    rw [Nat.min_eq_left c] at g1 g2
    rw [g1, g2, boS, boS]
    refine ⟨nI n, σ', τ', rfl, rfl, ?_⟩
    refine ⟨Y, A, P, T, O', Z', ?_, ?_, ?_, ?_, ?_, ?_, ?_, ?_, ?_⟩
    · refine ⟨⟨by rw [hX 0 (by omega) (by omega) (by omega) (by omega)]; exact y1, by rw [hM0 _ (by omega) (by omega)]; exact y2, y3⟩, ⟨by rw [hX 1 (by omega) (by omega) (by omega) (by omega)]; exact a1, by rw [hM0 _ (by omega) (by omega)]; exact a2, a3⟩, ⟨by rw [hX 9 (by omega) (by omega) (by omega) (by omega)]; exact p1, by rw [hM0 _ (by omega) (by omega)]; exact p2, p3, p4⟩, ⟨by rw [hX 6 (by omega) (by omega) (by omega) (by omega)]; exact t1, by rw [hM0 _ (by omega) (by omega)]; exact t2, t3⟩, oo, zz⟩
    · exact ha.cg (fun i hi k hk => by rw [hX (16 + i) (by omega) (by omega) (by omega) (by omega)]) (hM 1 (by omega) (by omega) (by omega) (by omega) (by omega)) (hM 2 (by omega) (by omega) (by omega) (by omega) (by omega)) (hM 3 (by omega) (by omega) (by omega) (by omega) (by omega)) (hM 4 (by omega) (by omega) (by omega) (by omega) (by omega))
    · refine ⟨fun i hi => ?_, fun p f h1 h2 h3 => ?_⟩
      · rw [hX (16 + i) (by omega) (by omega) (by omega) (by omega), hp.1 i hi]
        exact smI_congr P (fun p hp' => (k4 p (2 + i) (by omega) (by omega) (by omega)).symm)
      · by_cases ef : f = e
        · subst ef; rw [k5 p h1 h2]; exact hp.2 p f h1 h2 h3
        · rw [k4 p f h2 h3 ef]; exact hp.2 p f h1 h2 h3
    · exact hr.cg (hX 15 (by omega) (by omega) (by omega) (by omega)) (hM 5 (by omega) (by omega) (by omega) (by omega) (by omega))
    · exact hs.cg (fun i hi => hX (36 + i) (by omega) (by omega) (by omega) (by omega)) (fun i hi => hX (40 + i) (by omega) (by omega) (by omega) (by omega)) (hM 6 (by omega) (by omega) (by omega) (by omega) (by omega)) (hM 7 (by omega) (by omega) (by omega) (by omega) (by omega)) (hM 8 (by omega) (by omega) (by omega) (by omega) (by omega)) (hM 9 (by omega) (by omega) (by omega) (by omega) (by omega))
    · exact ht.cg (hX 7 (by omega) (by omega) (by omega) (by omega)) (hM 10 (by omega) (by omega) (by omega) (by omega) (by omega))
    · exact hu'
    · exact hb'
    · exact ho'
  · rw [if_neg c, if_neg c]; exact Op2.same h0
def gN (k : Nat) : Nat := if k = 1 then 4 else if k = 2 then 9 else if k = 3 then 9 else 6
theorem gain_eq {σ τ : Mem} {a k : Nat} (ha : a < 10) (h1 : σ (16 + a) 0 = τ 1 a) (h2 : τ 1 a = nI k) (hk : k ≤ 3) : fX0_gain σ (16 + a) = nI (gN k) ∧ fX10_gain τ (nI a) = some (nI (gN k)) := by
  unfold fX0_gain fX10_gain gN
  simp only [inbN ha (show 10 < 2 ^ 31 by omega), if_true, cN (show a < 2 ^ 31 by omega), h1, h2]
  rcases (show k = 0 ∨ k = 1 ∨ k = 2 ∨ k = 3 by omega) with rfl | rfl | rfl | rfl <;> exact ⟨by decide, by decide⟩
theorem gN_bd (k : Nat) : 4 ≤ gN k ∧ gN k ≤ 9 := by unfold gN; split <;> (try split) <;> (try split) <;> omega
set_option maxHeartbeats 1000000 in
theorem upTo_eq {σ : Mem} {i s up g : Nat} (h1 : σ i 1 = nI s) (hg : fX0_gain σ i = nI g) (hg0 : 0 < g) (hg9 : g ≤ 9) (hs : s ≤ up) (hup : up ≤ 1000) : fX0_coinsUpTo σ i (nI up) = some (nI ((up - s + g - 1) / g)) := by
  unfold fX0_coinsUpTo
  rw [biE, hg, h1, pk_sub hs, if_neg (by rw [i0, eqN (by omega) (by omega)]; omega)]
  have e1 : (if (0 : Int32) < nI (up - s) then nI (up - s) else 0) = nI (up - s) := by
    have : ((0 : Int32) < nI (up - s)) = (0 < up - s) := ltN (a := 0) (by omega) (by omega)
    simp only [this]
    by_cases c : 0 < up - s
    · rw [if_pos c]
    · rw [if_neg c, show up - s = 0 by omega]; rfl
  rw [e1, nI_add]
  have e2 : nI (up - s + g) - 1 = nI (up - s + g - 1) := pk_sub (b := 1) (by omega)
  rw [e2, pk_div (by omega) hg0 (by omega)]
set_option maxHeartbeats 1000000 in
theorem work_both {Y A P T O Z : Nat} {σ τ : Mem} (h : Rel Y A P T O Z σ τ) {a s up k w0 : Nat} (hA : a < A) (hs1 : τ 2 a = nI s) (hk1 : τ 1 a = nI k) (hk : k ≤ 3) (hsu : s ≤ up) (hup : up ≤ 1000) (hw0 : w0 < 2 ^ 31) :
    ∃ c σ' τ' O' Z', c = min (min ((up - s + gN k - 1) / gN k) w0) (smN (fp σ (nI (2 + a)) (nI Y)) P) ∧ fX9_workFor σ (nI a) (nI (min ((up - s + gN k - 1) / gN k) w0)) = some (nI c, σ') ∧ fX10_worked τ (nI a) (nI up) (nI w0) = some (nI c, τ') ∧ Rel Y A P T O' Z' σ' τ' ∧ (∀ i, ¬ (16 ≤ i ∧ i < 26) → i ≠ 11 → i ≠ 12 → i ≠ 14 → ¬ (44 ≤ i ∧ i < 84) → σ' i = σ i) ∧ (∀ i, i < 10 → σ' (16 + i) 5 = σ (16 + i) 5) ∧ (∀ i, i ≠ 0 → i ≠ 2 → i ≠ 16 → i ≠ 19 → i ≠ 20 → i ≠ 21 → τ' i = τ i) := by
  have hrel := h
  obtain ⟨hx, ha, hp, hr, hs, ht, hu, hb, ho⟩ := h
  have hxx := hx
  obtain ⟨⟨y1, y2, y3⟩, ⟨a1, a2, a3⟩, ⟨p1, p2, p3, p4⟩, ⟨t1, t2, t3⟩, ⟨o1, o2, o3⟩, ⟨z1, z2, z3⟩⟩ := hxx
  obtain ⟨⟨q1, q2, q3, q4⟩, b1, b2, b3, b4, b5⟩ := ha a (by omega)
  have hsb : s ≤ 1000 := by omega
  obtain ⟨gg1, gg2⟩ := gN_bd k
  obtain ⟨nd, hnd⟩ : ∃ nd, nd = (up - s + gN k - 1) / gN k := ⟨_, rfl⟩
  have hndg : nd * gN k ≤ up - s + gN k - 1 := by rw [hnd]; exact Nat.div_mul_le_self _ _
  have hndb : nd ≤ 1100 := by
    have : nd * 4 ≤ nd * gN k := Nat.mul_le_mul_left nd gg1
    omega
  rw [← hnd]
  obtain ⟨c, hc⟩ : ∃ c, c = min (min nd w0) (smN (fp σ (nI (2 + a)) (nI Y)) P) := ⟨_, rfl⟩
  have hcg : c * gN k ≤ nd * gN k := Nat.mul_le_mul_right _ (by omega)
  obtain ⟨σ1, τ1, g1, g2, hu', hb', ⟨O', Z', oo, zz⟩, ho', hX, hM, hM0, k4, k5, k6⟩ := take_all hrel (show 2 + a < 12 by omega) (show min nd w0 < 2 ^ 31 by omega)
  rw [← hc] at g1 g2 k6
  have e2a : (2 : Int32) + nI a = nI (2 + a) := nI_add 2 a
  have hFb := fp_bd (nI (2 + a)) (nI Y) hu y3 P p4
  obtain ⟨ga1, ga2⟩ := gain_eq (show a < 10 by omega) q1 hk1 hk
  have hXa : σ1 (16 + a) = σ (16 + a) := hX (16 + a) (by omega) (by omega) (by omega) (by omega)
  obtain ⟨gb1, gb2⟩ := gain_eq (σ := σ1) (τ := τ1) (show a < 10 by omega) (by rw [hXa, hM 1 (by omega) (by omega) (by omega) (by omega) (by omega)]; exact q1) (by rw [hM 1 (by omega) (by omega) (by omega) (by omega) (by omega)]; exact hk1) hk
  obtain ⟨st, hst⟩ : ∃ st, st = min 1000 (s + c * gN k) := ⟨_, rfl⟩
  -- the class
  have hC : fX9_workFor σ (nI a) (nI (min nd w0)) = some (nI c, mset (mset σ1 (16 + a) 1 (nI st)) (16 + a) 4 (σ (16 + a) 4 + nI c)) := by
    unfold fX9_workFor
    rw [e2a, g1, boS]
    dsimp only
    rw [if_pos (inbN (show a < 10 by omega) (by omega)), cN (by omega), rf3]
    unfold fX0_mend
    have e3 : nI s + nI c * nI (gN k) = nI (s + c * gN k) := by rw [pk_mul, nI_add]
    have e4 : (nI (s + c * gN k) < (1000 : Int32)) = (s + c * gN k < 1000) := ltN (b := 1000) (by omega) (by omega)
    rw [bmE, bmE, gb1, hXa, q2, hs1, e3]
    simp only [e4, mg_k (show (4 : Nat) ≠ 1 by omega), hXa, boS]
    by_cases c1 : s + c * gN k < 1000
    · rw [if_pos c1, hst, Nat.min_eq_right (by omega)]
    · rw [if_neg c1, hst, Nat.min_eq_left (by omega)]; rfl
  -- the reference
  have hM' : ∃ τ', fX10_worked τ (nI a) (nI up) (nI w0) = some (nI c, τ') ∧ (∀ i, i ≠ 2 → τ' i = τ1 i) ∧ (∀ j, j ≠ a → τ' 2 j = τ1 2 j) ∧ τ' 2 a = nI st := by
    have hW : fX10_worked τ (nI a) (nI up) (nI w0) = fX10_worked_61 τ (nI a) (nI c) := by
      unfold fX10_worked fX10_worked_45
      have e5 : nI up - nI s + nI (gN k) - 1 = nI (up - s + gN k - 1) := by rw [pk_sub hsu, nI_add]; exact pk_sub (b := 1) (by omega)
      rw [if_pos (inbN (show a < 10 by omega) (by omega)), cN (by omega), ga2, boS, boS, if_neg (by rw [i0, eqN (by omega) (by omega)]; omega), biE, hs1, e5, pk_div (by omega) (by omega) (by omega), ← hnd, e2a, mfunds_eq (nI (2 + a)) hx hu, boS, funds_nI (nI (2 + a)) (nI Y) hu y3 p4]
      have f1 : (nI nd ≤ nI w0) = (nd ≤ w0) := leN (by omega) (by omega)
      have f2 : (nI nd ≤ nI (smN (fp σ (nI (2 + a)) (nI Y)) P)) = (nd ≤ smN (fp σ (nI (2 + a)) (nI Y)) P) := leN (by omega) (by omega)
      have f3 : (nI w0 ≤ nI (smN (fp σ (nI (2 + a)) (nI Y)) P)) = (w0 ≤ smN (fp σ (nI (2 + a)) (nI Y)) P) := leN (by omega) (by omega)
      simp only [f1, f2, f3]
      by_cases c1 : nd ≤ w0
      · rw [if_pos c1]
        by_cases c2 : nd ≤ smN (fp σ (nI (2 + a)) (nI Y)) P
        · rw [if_pos c2, hc, Nat.min_eq_left (by omega), Nat.min_eq_left c1]
        · rw [if_neg c2, hc, Nat.min_eq_right (by omega)]
      · rw [if_neg c1]
        by_cases c2 : w0 ≤ smN (fp σ (nI (2 + a)) (nI Y)) P
        · rw [if_pos c2, hc, Nat.min_eq_left (by omega), Nat.min_eq_right (by omega)]
        · rw [if_neg c2, hc, Nat.min_eq_right (by omega)]
    rw [hW]
    unfold fX10_worked_61
    have e3 : nI s + nI c * nI (gN k) = nI (s + c * gN k) := by rw [pk_mul, nI_add]
    have hs1' : τ1 2 a = nI s := by rw [hM 2 (by omega) (by omega) (by omega) (by omega) (by omega)]; exact hs1
    have e4 : (nI (s + c * gN k) ≤ (1000 : Int32)) = (s + c * gN k ≤ 1000) := leN (b := 1000) (by omega) (by omega)
    simp only [e2a, g2, boS, inbN (show a < 10 by omega) (show 10 < 2 ^ 31 by omega), if_true, cN (show a < 2 ^ 31 by omega), gb2, bmE, hs1', e3, mg_e, e4]
    by_cases c1 : s + c * gN k ≤ 1000
    · rw [if_pos c1]
      refine ⟨_, rfl, fun i hi => by rw [mset_ne hi, mset_ne hi], fun j hj => by rw [mg_k hj, mg_k hj], ?_⟩
      rw [mg_e, hst, Nat.min_eq_right c1]
    · rw [if_neg c1]
      refine ⟨_, rfl, fun i hi => by rw [mset_ne hi, mset_ne hi], fun j hj => by rw [mg_k hj, mg_k hj], ?_⟩
      rw [mg_e, hst, Nat.min_eq_left (by omega)]; rfl
  obtain ⟨τ', hm1, hm2, hm3, hm4⟩ := hM'
  refine ⟨c, _, τ', O', Z', hc, hC, hm1, ?_, fun i h1 h2 h3 h4 h5 => ?_, fun i hi => ?_, fun i h1 h2 h3 h4 h5 h6 => ?_⟩
  · have hX2 : ∀ i, i ≠ 16 + a → i ≠ 11 → i ≠ 12 → i ≠ 14 → ¬ (44 ≤ i ∧ i < 84) → mset (mset σ1 (16 + a) 1 (nI st)) (16 + a) 4 (σ (16 + a) 4 + nI c) i = σ i := fun i h1 h2 h3 h4 h5 => by rw [mset_ne h1, mset_ne h1]; exact hX i h2 h3 h4 h5
    have hX3 : ∀ i, i ≠ 16 + a → mset (mset σ1 (16 + a) 1 (nI st)) (16 + a) 4 (σ (16 + a) 4 + nI c) i = σ1 i := fun i h1 => by rw [mset_ne h1, mset_ne h1]
    have hM2 : ∀ i, i ≠ 0 → i ≠ 2 → i ≠ 16 → i ≠ 19 → i ≠ 20 → i ≠ 21 → τ' i = τ i := fun i h1 h2 h3 h4 h5 h6 => by rw [hm2 i h2]; exact hM i h1 h3 h4 h5 h6
    have hM02 : ∀ k, k ≠ 24 → k ≠ 25 → τ' 0 k = τ 0 k := fun k h1 h2 => by rw [hm2 0 (by omega)]; exact hM0 k h1 h2
    refine ⟨⟨⟨?_, ?_, y3⟩, ⟨?_, ?_, a3⟩, ⟨?_, ?_, p3, p4⟩, ⟨?_, ?_, t3⟩, ⟨?_, ?_, oo.2.2⟩, ⟨?_, ?_, zz.2.2⟩⟩, ?_, ?_, ?_, ?_, ?_, ?_, ?_, ?_⟩
    · rw [hX2 0 (by omega) (by omega) (by omega) (by omega) (by omega)]; exact y1
    · rw [hM02 _ (by omega) (by omega)]; exact y2
    · rw [hX2 1 (by omega) (by omega) (by omega) (by omega) (by omega)]; exact a1
    · rw [hM02 _ (by omega) (by omega)]; exact a2
    · rw [hX2 9 (by omega) (by omega) (by omega) (by omega) (by omega)]; exact p1
    · rw [hM02 _ (by omega) (by omega)]; exact p2
    · rw [hX2 6 (by omega) (by omega) (by omega) (by omega) (by omega)]; exact t1
    · rw [hM02 _ (by omega) (by omega)]; exact t2
    · rw [hX3 11 (by omega)]; exact oo.1
    · rw [hm2 0 (by omega)]; exact oo.2.1
    · rw [hX3 11 (by omega)]; exact zz.1
    · rw [hm2 0 (by omega)]; exact zz.2.1
    · intro i hi
      rw [hM2 1 (by omega) (by omega) (by omega) (by omega) (by omega) (by omega), hM2 3 (by omega) (by omega) (by omega) (by omega) (by omega) (by omega), hM2 4 (by omega) (by omega) (by omega) (by omega) (by omega) (by omega)]
      by_cases ei : i = a
      · subst ei
        rw [mg_k (show (0 : Nat) ≠ 4 by omega), mg_k (show (0 : Nat) ≠ 1 by omega), mg_k (show (1 : Nat) ≠ 4 by omega), mg_e, mg_k (show (2 : Nat) ≠ 4 by omega), mg_k (show (2 : Nat) ≠ 1 by omega), mg_k (show (3 : Nat) ≠ 4 by omega), mg_k (show (3 : Nat) ≠ 1 by omega), hXa, hm4]
        refine ⟨⟨q1, rfl, q3, q4⟩, b1, ⟨st, by omega, rfl⟩, b3, b4, fun h => b5 ?_⟩
        rw [i0, eqN (by omega) (by omega)] at h
        rw [hs1, show s = 0 by omega]; rfl
      · rw [hX2 (16 + i) (by omega) (by omega) (by omega) (by omega) (by omega), hm3 i ei, hM 2 (by omega) (by omega) (by omega) (by omega) (by omega)]; exact ha i hi
    · have e19 : τ' 19 = τ1 19 := hm2 19 (by omega)
      refine ⟨fun i hi => ?_, fun p f h1 h2 h3 => ?_⟩
      · rw [e19]
        by_cases ei : i = a
        · subst ei; rw [mg_e, hp.1 i hi, k6]
        · rw [hX2 (16 + i) (by omega) (by omega) (by omega) (by omega) (by omega), hp.1 i hi]
          exact smI_congr P (fun p hp' => (k4 p (2 + i) (by omega) (by omega) (by omega)).symm)
      · rw [e19]
        by_cases ef : f = 2 + a
        · subst ef; rw [k5 p h1 h2]; exact hp.2 p _ h1 h2 h3
        · rw [k4 p f h2 h3 ef]; exact hp.2 p f h1 h2 h3
    · exact hr.cg (hX2 15 (by omega) (by omega) (by omega) (by omega) (by omega)) (hM2 5 (by omega) (by omega) (by omega) (by omega) (by omega) (by omega))
    · exact hs.cg (fun i hi => hX2 (36 + i) (by omega) (by omega) (by omega) (by omega) (by omega)) (fun i hi => hX2 (40 + i) (by omega) (by omega) (by omega) (by omega) (by omega)) (hM2 6 (by omega) (by omega) (by omega) (by omega) (by omega) (by omega)) (hM2 7 (by omega) (by omega) (by omega) (by omega) (by omega) (by omega)) (hM2 8 (by omega) (by omega) (by omega) (by omega) (by omega) (by omega)) (hM2 9 (by omega) (by omega) (by omega) (by omega) (by omega) (by omega))
    · exact ht.cg (hX2 7 (by omega) (by omega) (by omega) (by omega) (by omega)) (hM2 10 (by omega) (by omega) (by omega) (by omega) (by omega) (by omega))
    · exact hu'.cg (fun i hi => hX3 (44 + i) (by omega)) (fun i hi => hX3 (64 + i) (by omega)) (fun k h1 h2 => hm2 k (by omega)) (by rw [hm2 0 (by omega)])
    · exact hb'.cg (hX3 12 (by omega)) (hm2 20 (by omega))
    · exact ho'.cg (hX3 14 (by omega)) (hm2 21 (by omega))
  · rw [mset_ne (by omega), mset_ne (by omega)]; exact hX i h2 h3 h4 h5
  · by_cases ei : i = a
    · subst ei; rw [mg_k (by omega), mg_k (by omega), hXa]
    · rw [mset_ne (by omega), mset_ne (by omega), hX (16 + i) (by omega) (by omega) (by omega) (by omega)]
  · rw [hm2 i h2]; exact hM i h1 h3 h4 h5 h6
