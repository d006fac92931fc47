theorem mset_id (σ : Mem) (i k : Nat) : mset σ i k (σ i k) = σ := by
  funext j l
  by_cases e : j = i
  · subst e
    by_cases e2 : l = k
    · subst e2; exact mg_e
    · exact mg_k e2
  · exact mg_i e
theorem taken_zero {τ : Mem} {Y e : Nat} (hy : τ 0 0 = nI Y) (hY : Y ≤ 200) (he : e < 12) : fX10_taken τ (nI e) (nI 0) = some τ := by
  unfold fX10_taken
  have h1 : fX10_taken_2 300 τ (nI e) (nI 0) (nI 0) = fX10_taken_146 τ (nI e) (nI 0) := by rw [fX10_taken_2, if_pos (by decide)]
  rw [h1]
  unfold fX10_taken_146 fX10_taken_159
  have f2 : ((2 : Int32) ≤ nI e) = (2 ≤ e) := leN (a := 2) (by omega) (by omega)
  simp only [f2]
  by_cases c2 : 2 ≤ e
  · rw [if_pos c2]
    have : fX10_told τ 5 (nI 0) = some τ := by
      rw [i5, told_eq (k := 5) _ hy hY (by omega), nI_0, Int32.add_zero, mset_id]
    rw [this, boS]
  · rw [if_neg c2]
    have : fX10_told τ (3 + nI e) (nI 0) = some τ := by
      rw [show (3 : Int32) + nI e = nI (3 + e) from nI_add 3 e, told_eq (k := 3 + e) _ hy hY (by omega), nI_0, Int32.add_zero, mset_id]
    rw [this, boS]
set_option maxHeartbeats 1000000 in
theorem w61_zero {τ : Mem} {Y a s k : Nat} (hy : τ 0 0 = nI Y) (hY : Y ≤ 200) (ha : a < 10) (hs1 : τ 2 a = nI s) (hs : s ≤ 1000) (hg : ∃ g, fX10_gain τ (nI a) = some g) : fX10_worked_61 τ (nI a) (nI 0) = some (nI 0, τ) := by
  obtain ⟨g, hg⟩ := hg
  unfold fX10_worked_61
  have e2a : (2 : Int32) + nI a = nI (2 + a) := nI_add 2 a
  have e3 : nI s + nI 0 * g = nI s := by rw [nI_0, Int32.zero_mul, Int32.add_zero]
  have e4 : (nI s ≤ (1000 : Int32)) = True := by rw [i1000, leN (by omega) (by omega)]; exact propext ⟨fun _ => trivial, fun _ => hs⟩
  simp only [e2a, taken_zero hy hY (show 2 + a < 12 by omega), boS, inbN ha (show 10 < 2 ^ 31 by omega), if_true, cN (show a < 2 ^ 31 by omega), hg, bmE, hs1, e3, mg_e, e4]
  have e5 : mset τ 2 a (nI s) = τ := by rw [← hs1]; exact mset_id τ 2 a
  rw [e5, e5]
set_option maxHeartbeats 1000000 in
theorem worked_w {Y A P T O Z : Nat} {σ τ : Mem} (h : Rel Y A P T O Z σ τ) {a s up k w0 : Nat} (hA : a < A) (hs1 : τ 2 a = nI s) (hk1 : τ 1 a = nI k) (hk : k ≤ 3) (hsu : s ≤ up) (hup : up ≤ 1000) (hw0 : w0 < 2 ^ 31) : fX10_worked τ (nI a) (nI up) (nI w0) = fX10_worked_61 τ (nI a) (nI (min (min ((up - s + gN k - 1) / gN k) w0) (smN (fp σ (nI (2 + a)) (nI Y)) P))) := by
  obtain ⟨hx, ha, hp, hr, hs, ht, hu, hb, ho⟩ := h
  have hxx := hx
  obtain ⟨⟨y1, y2, y3⟩, ⟨a1, a2, a3⟩, ⟨p1, p2, p3, p4⟩, -⟩ := hxx
  obtain ⟨⟨q1, q2, q3, q4⟩, b1, b2, b3, b4, b5⟩ := ha a (by omega)
  obtain ⟨gg1, gg2⟩ := gN_bd k
  obtain ⟨nd, hnd⟩ : ∃ nd, nd = (up - s + gN k - 1) / gN k := ⟨_, rfl⟩
  have hndg : nd * gN k ≤ up - s + gN k - 1 := by rw [hnd]; exact Nat.div_mul_le_self _ _
  have hndb : nd ≤ 1100 := by
    have : nd * 4 ≤ nd * gN k := Nat.mul_le_mul_left nd gg1
    omega
  rw [← hnd]
  obtain ⟨c, hc⟩ : ∃ c, c = min (min nd w0) (smN (fp σ (nI (2 + a)) (nI Y)) P) := ⟨_, rfl⟩
  rw [← hc]
  have e2a : (2 : Int32) + nI a = nI (2 + a) := nI_add 2 a
  have hFb := fp_bd (nI (2 + a)) (nI Y) hu y3 P p4
  obtain ⟨ga1, ga2⟩ := gain_eq (show a < 10 by omega) q1 hk1 hk
  unfold fX10_worked fX10_worked_45
  have e5 : nI up - nI s + nI (gN k) - 1 = nI (up - s + gN k - 1) := by rw [pk_sub hsu, nI_add]; exact pk_sub (b := 1) (by omega)
  rw [if_pos (inbN (show a < 10 by omega) (by omega)), cN (by omega), ga2, boS, boS, if_neg (by rw [i0, eqN (by omega) (by omega)]; omega), biE, hs1, e5, pk_div (by omega) (by omega) (by omega), ← hnd, e2a, mfunds_eq (nI (2 + a)) hx hu, boS, funds_nI (nI (2 + a)) (nI Y) hu y3 p4]
  have f1 : (nI nd ≤ nI w0) = (nd ≤ w0) := leN (by omega) (by omega)
  have f2 : (nI nd ≤ nI (smN (fp σ (nI (2 + a)) (nI Y)) P)) = (nd ≤ smN (fp σ (nI (2 + a)) (nI Y)) P) := leN (by omega) (by omega)
  have f3 : (nI w0 ≤ nI (smN (fp σ (nI (2 + a)) (nI Y)) P)) = (w0 ≤ smN (fp σ (nI (2 + a)) (nI Y)) P) := leN (by omega) (by omega)
  simp only [f1, f2, f3]
  by_cases c1 : nd ≤ w0
  · rw [if_pos c1]
    by_cases c2 : nd ≤ smN (fp σ (nI (2 + a)) (nI Y)) P
    · rw [if_pos c2, hc, Nat.min_eq_left (by omega), Nat.min_eq_left c1]
    · rw [if_neg c2, hc, Nat.min_eq_right (by omega)]
  · rw [if_neg c1]
    by_cases c2 : w0 ≤ smN (fp σ (nI (2 + a)) (nI Y)) P
    · rw [if_pos c2, hc, Nat.min_eq_left (by omega), Nat.min_eq_right (by omega)]
    · rw [if_neg c2, hc, Nat.min_eq_right (by omega)]
set_option maxHeartbeats 1000000 in
theorem op_work {σ τ : Mem} (v1 v2 : Int32) (h : RelE σ τ) : Op2 (fX9_work σ v1 v2) (fX10_work τ v1 v2) := by
  have h0 := h
  obtain ⟨Y, A, P, T, O, Z, hx, ha, hp, hr, hs, ht, hu, hb, ho⟩ := h
  have hxx := hx
  obtain ⟨⟨y1, y2, y3⟩, ⟨a1, a2, a3⟩, ⟨p1, p2, p3, p4⟩, ⟨t1, t2, t3⟩, ⟨o1, o2, o3⟩, ⟨z1, z2, z3⟩⟩ := hxx
  have hrel : Rel Y A P T O Z σ τ := ⟨hx, ha, hp, hr, hs, ht, hu, hb, ho⟩
  unfold fX9_work fX10_work
  rcases has_or v1 a1 a2 a3 with ⟨e1, e2⟩ | ⟨a, hA, rfl, e1, e2⟩
  · simp only [e1, e2, if_true]; exact Op2.same h0
  simp only [e1, e2, z10, if_false]
  rcases win_or σ τ v2 1 100000 (lo := 1) (hi := 100000) rfl rfl (by omega) (by omega) with ⟨e3, e4⟩ | ⟨n, hn1, hn2, rfl, e3, e4⟩
  · simp only [e3, e4, if_true]; exact Op2.same h0
  obtain ⟨⟨q1, q2, q3, q4⟩, ⟨k, hk, hk1⟩, ⟨s, hsb, hs1⟩, b3, b4, b5⟩ := ha a (by omega)
  obtain ⟨gg1, gg2⟩ := gN_bd k
  obtain ⟨ga1, ga2⟩ := gain_eq (show a < 10 by omega) q1 hk1 hk
  have e2a : (2 : Int32) + nI a = nI (2 + a) := nI_add 2 a
  have hFb := fp_bd (nI (2 + a)) (nI Y) hu y3 P p4
  obtain ⟨c, σ', τ', O', Z', hc, hC, hM, hR, -, -, -⟩ := work_both hrel (up := 1000) (w0 := n) hA hs1 hk1 hk hsb (by omega) (by omega)
  have hw := worked_w hrel (up := 1000) (w0 := n) hA hs1 hk1 hk hsb (by omega) (by omega)
  rw [← hc] at hw
  obtain ⟨nd, hnd⟩ : ∃ nd, nd = (1000 - s + gN k - 1) / gN k := ⟨_, rfl⟩
  have hndg : nd * gN k ≤ 1000 - s + gN k - 1 := by rw [hnd]; exact Nat.div_mul_le_self _ _
  have hndb : nd ≤ 1100 := by
    have : nd * 4 ≤ nd * gN k := Nat.mul_le_mul_left nd gg1
    omega
  have hup := upTo_eq (σ := σ) (i := 16 + a) (up := 1000) (by rw [q2]; exact hs1) ga1 (by omega) gg2 hsb (by omega)
  rw [← hnd] at hc hC hup
  have hup' : fX0_coinsUpTo σ (16 + a) 1000 = some (nI nd) := hup
  have emin : (if nI nd < nI n then nI nd else nI n) = nI (min nd n) := by
    have : (nI nd < nI n) = (nd < n) := ltN (by omega) (by omega)
    simp only [this]
    by_cases c1 : nd < n
    · rw [if_pos c1, Nat.min_eq_left (by omega)]
    · rw [if_neg c1, Nat.min_eq_right (by omega)]
  have hM' : fX10_worked τ (nI a) 1000 (nI n) = some (nI c, τ') := hM
  simp only [e3, e4, z10, if_false, inbN (show a < 10 by omega) (show 10 < 2 ^ 31 by omega), if_true, cN (show a < 2 ^ 31 by omega), rf3, hup', boS, emin, hC, hs1, e2a, mfunds_eq (nI (2 + a)) hx hu, funds_nI (nI (2 + a)) (nI Y) hu y3 p4, hM']
  have f1 : (nI s = (1000 : Int32)) = (s = 1000) := eqN (b := 1000) (by omega) (by omega)
  have f2 : (nI (smN (fp σ (nI (2 + a)) (nI Y)) P) = (0 : Int32)) = (smN (fp σ (nI (2 + a)) (nI Y)) P = 0) := eqN (b := 0) (by omega) (by omega)
  have f3 : (nI c = (0 : Int32)) = (c = 0) := eqN (b := 0) (by omega) (by omega)
  simp only [f1, f2, f3]
  have hpos : s < 1000 → 1 ≤ nd := fun h => by rw [hnd]; exact Nat.div_pos (by omega) (by omega)
  have hzero : s = 1000 → nd = 0 := fun h => by rw [hnd]; exact Nat.div_eq_of_lt (by omega)
  have hno : c = 0 → RelE σ' τ := fun h => by
    have e9 : τ' = τ := by
      rw [hM, h, w61_zero (k := k) y2 y3 (show a < 10 by omega) hs1 hsb ⟨_, ga2⟩] at hw
      exact congrArg Prod.snd (Option.some.inj hw)
    rw [e9] at hR
    exact ⟨Y, A, P, T, O', Z', hR⟩
  by_cases c1 : s = 1000
  · have hz := hzero c1
    rw [if_pos c1, if_pos (show c = 0 by omega)]
    exact ⟨_, σ', τ, rfl, rfl, hno (by omega)⟩
  rw [if_neg c1]
  have hp1 := hpos (by omega)
  by_cases c2 : smN (fp σ (nI (2 + a)) (nI Y)) P = 0
  · rw [if_pos c2, if_pos (show c = 0 by omega)]
    exact ⟨_, σ', τ, rfl, rfl, hno (by omega)⟩
  · rw [if_neg c2, if_neg (show ¬ c = 0 by omega)]
    exact ⟨nI c, σ', τ', rfl, rfl, Y, A, P, T, O', Z', hR⟩
