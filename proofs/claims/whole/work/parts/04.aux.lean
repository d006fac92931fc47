section AUX
variable {E : XE} {Λ : Lay} {q : MD} {σ : Mem} {pc : Nat} {lv : List (Nat × Value)} {st : List Value} {res : Option Int32 × Mem}
theorem g_bm {α : Type} {m : Mem} {k : Mem → α} {Z : α} (h : bm m k = Z) (kk : ∀ m', m' = m → k m' = Z → G E Λ q m' pc lv st res) : G E Λ q m pc lv st res := kk m rfl h
theorem g_bi {α : Type} {x : Int32} {k : Int32 → α} {Z : α} (h : bi x k = Z) (kk : ∀ x', x' = x → k x' = Z → G E Λ q σ pc lv (.int x' :: st) res) : G E Λ q σ pc lv (.int x :: st) res := kk x rfl h
def cpok (sp dp n : Int32) (n0 n1 : Nat) : Bool := decide (¬ sp < 0 ∧ ¬ dp < 0 ∧ ¬ n < 0 ∧ sp.toNatClampNeg + n.toNatClampNeg ≤ n0 ∧ dp.toNatClampNeg + n.toNatClampNeg ≤ n1)
def mcpy (σ : Mem) (i j : Nat) (sp dp n : Int32) : Mem := va_up σ j (va_cpy (σ i) (σ j) sp.toNatClampNeg dp.toNatClampNeg n.toNatClampNeg)
theorem cpy_k {α : Type} {sp dp n : Int32} {n0 n1 : Nat} {A : Option α} {Z : α} {P : Prop} (h : (if cpok sp dp n n0 n1 = true then A else none) = some Z) (k : cpok sp dp n n0 n1 = true → A = some Z → P) : P := by
  by_cases c : cpok sp dp n n0 n1 = true
  · rw [if_pos c] at h; exact k c h
  · rw [if_neg c] at h; cases h
theorem r_acopy {i j n0 n1 index : Nat} {sp dp n : Int32} (w1 : Cond.methodLink q.1 index arraycopyName ∈ TBL) (w2 : Cond.native arraycopyName ∈ TBL) (w3 : Cond.static arraycopyName ∈ TBL) (w4 : Cond.initialized "java/lang/System" ∈ TBL) (hN : i < Λ.1) (hK : Λ.2.1 i = 12) (hN2 : j < Λ.1) (hK2 : Λ.2.1 j = 12) (hl1 : Λ.2.2.1 i = n0) (hl2 : Λ.2.2.1 j = n1) (hb : cpok sp dp n n0 n1 = true) (hroom : 1 ≤ q.2.2.2.2.1 ∧ (st.map fun v => v.category).sum + (nativeFrameWords "java/lang/System" "arraycopy" 5 + 11) ≤ q.2.2.2.2.2) (hd : decode q.2.1 pc = .ok (.invokestatic index, 3)) (kk : G E Λ q (mcpy σ i j sp dp n) (pc + 3) lv st res) : G E Λ q σ pc lv (.int n :: .int dp :: .ref (xa E j) :: .int sp :: .ref (xa E i) :: st) res := by
  intro C ls H locs hl hw
  obtain ⟨b1, b2, b3, b4, b5⟩ : ¬ sp < 0 ∧ ¬ dp < 0 ∧ ¬ n < 0 ∧ sp.toNatClampNeg + n.toNatClampNeg ≤ n0 ∧ dp.toNatClampNeg + n.toNatClampNeg ≤ n1 := of_decide_eq_true hb
  have hset : (wl E.2.2 Λ σ).set j (E.2.2.2.2.1 j, .inl (E.2.2.2.1 12, Λ.2.2.1 j, .inl (va_cpy (σ i) (σ j) sp.toNatClampNeg dp.toNatClampNeg n.toNatClampNeg))) = wl E.2.2 Λ (mcpy σ i j sp dp n) := wl_row hN2 (by rw [cel_int hK2 (by decide) (by decide)]; simp [va_up])
  exact va_copyi C.1 C.2.1 (C.2.2.2.1.trans hl.1.symm) C.2.2.2.2.1 (C.2.2.2.2.2.1 _ w1) (C.2.2.2.2.2.1 _ w2) (C.2.2.2.2.2.1 _ w3) (C.2.2.2.2.2.1 _ w4) C.2.2.2.2.2.2.1 hw.1 (wl_D C.2.2.2.2.2.2.2.2.2.2.1) hw.2 i j 1 1 ((wl_get hN).trans (by rw [cel_int hK (by decide) (by decide)])) ((wl_get hN2).trans (by rw [cel_int hK2 (by decide) (by decide)])) rfl rfl rfl b1 b2 b3 (by rw [hl1]; exact b4) (by rw [hl2]; exact b5) (fun _ _ => rfl) (by rw [C.2.2.2.2.2.2.2.2.1]; exact hroom.1) (by rw [C.2.2.2.2.2.2.2.2.1]; exact hroom.2) hd (fun H1 locs1 hP1 _ hS1 => kk C ls H1 locs1 hl ⟨by rw [← hset]; exact hP1, hS1⟩)
theorem r_iretW {v : Int32} {r : Int32 × Mem} (hq : q.2.2.2.1 = some .int) (hd : decode q.2.1 pc = .ok (.ireturn, 1)) (h : some (v, σ) = some r) : G E Λ q σ pc lv [.int v] (some r.1, r.2) := by
  cases h
  exact r_iret hq hd rfl rfl
theorem r_zretW {v : Int32} {r : Int32 × Mem} {ty : FieldType} (hq : q.2.2.2.1 = some ty) (hn : narrow ty (.int v) = .int v) (hd : decode q.2.1 pc = .ok (.ireturn, 1)) (h : some (v, σ) = some r) : G E Λ q σ pc lv [.int v] (some r.1, r.2) := by
  cases h
  exact r_zret hq hn hd rfl rfl
end AUX
def KX (i : Nat) : Nat := if i < 16 then ([9, 2, 2, 14, 14, 16, 8, 11, 4, 3, 15, 1, 12, 6, 12, 12] : List Nat).getD i 0 else if i < 36 then 0 else if i < 40 then 7 else if i < 44 then 12 else if i < 64 then 5 else 12
def lenX (i : Nat) : Nat := if i < 16 then ([0, 0, 0, 10, 10, 4, 0, 48, 0, 0, 20, 0, 800, 0, 1407, 6] : List Nat).getD i 0 else if i < 40 then 0 else if i < 44 then 200 else if i < 64 then 0 else 12
def rfX (i k : Nat) : Nat := if i = 0 then ([1, 2, 5, 6, 8, 9, 11, 13, 15] : List Nat).getD k 0 else if i = 1 then 3 else if i = 2 then 4 else if i = 3 then 16 + k else if i = 4 then 26 + k else if i = 5 then 36 + k else if i = 6 then 7 else if i = 8 then 6 else if i = 9 then 10 else if i = 10 then 44 + k else if i = 11 then 12 else if i = 13 then 14 else if i < 40 then i + 4 else i + 20
abbrev LX : Lay := (84, KX, lenX, rfX)
def KM (i : Nat) : Nat := ([10, 12, 12, 12, 12, 12, 13, 12, 12, 12, 12, 12, 12, 12, 12, 12, 12, 12, 12, 12, 12, 12, 12, 12, 12, 12, 12, 13] : List Nat).getD i 0
def lenM (i : Nat) : Nat := ([0, 10, 10, 10, 10, 6, 4, 4, 4, 800, 48, 20, 20, 20, 20, 20, 20, 20, 20, 240, 800, 1407, 10, 10, 10, 10, 200, 10] : List Nat).getD i 0
def rfM (i k : Nat) : Nat := ([0, 0, 1, 2, 3, 4, 5, 6, 7, 8, 9, 10, 0, 0, 11, 12, 13, 14, 15, 16, 17, 18, 19, 20, 0, 0, 21, 22, 23, 24, 25, 26, 0, 0, 0, 0, 0, 0, 0, 0, 27] : List Nat).getD k 0
abbrev LM : Lay := (28, KM, lenM, rfM)
theorem nLX_0 : 0 < LX.1 := by decide
theorem kLX_0 : LX.2.1 0 = 9 := by decide
theorem lLX_0 : LX.2.2.1 0 = 0 := by decide
theorem nLX_1 : 1 < LX.1 := by decide
theorem kLX_1 : LX.2.1 1 = 2 := by decide
theorem lLX_1 : LX.2.2.1 1 = 0 := by decide
theorem nLX_2 : 2 < LX.1 := by decide
theorem kLX_2 : LX.2.1 2 = 2 := by decide
theorem lLX_2 : LX.2.2.1 2 = 0 := by decide
theorem nLX_3 : 3 < LX.1 := by decide
theorem kLX_3 : LX.2.1 3 = 14 := by decide
theorem lLX_3 : LX.2.2.1 3 = 10 := by decide
theorem nLX_4 : 4 < LX.1 := by decide
theorem kLX_4 : LX.2.1 4 = 14 := by decide
theorem lLX_4 : LX.2.2.1 4 = 10 := by decide
theorem nLX_5 : 5 < LX.1 := by decide
theorem kLX_5 : LX.2.1 5 = 16 := by decide
theorem lLX_5 : LX.2.2.1 5 = 4 := by decide
theorem nLX_6 : 6 < LX.1 := by decide
theorem kLX_6 : LX.2.1 6 = 8 := by decide
theorem lLX_6 : LX.2.2.1 6 = 0 := by decide
theorem nLX_7 : 7 < LX.1 := by decide
theorem kLX_7 : LX.2.1 7 = 11 := by decide
theorem lLX_7 : LX.2.2.1 7 = 48 := by decide
theorem nLX_8 : 8 < LX.1 := by decide
theorem kLX_8 : LX.2.1 8 = 4 := by decide
theorem lLX_8 : LX.2.2.1 8 = 0 := by decide
theorem nLX_9 : 9 < LX.1 := by decide
theorem kLX_9 : LX.2.1 9 = 3 := by decide
theorem lLX_9 : LX.2.2.1 9 = 0 := by decide
theorem nLX_10 : 10 < LX.1 := by decide
theorem kLX_10 : LX.2.1 10 = 15 := by decide
theorem lLX_10 : LX.2.2.1 10 = 20 := by decide
theorem nLX_11 : 11 < LX.1 := by decide
theorem kLX_11 : LX.2.1 11 = 1 := by decide
theorem lLX_11 : LX.2.2.1 11 = 0 := by decide
theorem nLX_12 : 12 < LX.1 := by decide
theorem kLX_12 : LX.2.1 12 = 12 := by decide
theorem lLX_12 : LX.2.2.1 12 = 800 := by decide
theorem nLX_13 : 13 < LX.1 := by decide
theorem kLX_13 : LX.2.1 13 = 6 := by decide
theorem lLX_13 : LX.2.2.1 13 = 0 := by decide
theorem nLX_14 : 14 < LX.1 := by decide
theorem kLX_14 : LX.2.1 14 = 12 := by decide
theorem lLX_14 : LX.2.2.1 14 = 1407 := by decide
theorem nLX_15 : 15 < LX.1 := by decide
theorem kLX_15 : LX.2.1 15 = 12 := by decide
theorem lLX_15 : LX.2.2.1 15 = 6 := by decide
theorem nLX_36 : 36 < LX.1 := by decide
theorem kLX_36 : LX.2.1 36 = 7 := by decide
theorem lLX_36 : LX.2.2.1 36 = 0 := by decide
theorem nLX_37 : 37 < LX.1 := by decide
theorem kLX_37 : LX.2.1 37 = 7 := by decide
theorem lLX_37 : LX.2.2.1 37 = 0 := by decide
theorem nLX_38 : 38 < LX.1 := by decide
theorem kLX_38 : LX.2.1 38 = 7 := by decide
theorem lLX_38 : LX.2.2.1 38 = 0 := by decide
theorem nLX_39 : 39 < LX.1 := by decide
theorem kLX_39 : LX.2.1 39 = 7 := by decide
theorem lLX_39 : LX.2.2.1 39 = 0 := by decide
theorem nLX_44 : 44 < LX.1 := by decide
theorem kLX_44 : LX.2.1 44 = 5 := by decide
theorem lLX_44 : LX.2.2.1 44 = 0 := by decide
theorem nLM_0 : 0 < LM.1 := by decide
theorem kLM_0 : LM.2.1 0 = 10 := by decide
theorem lLM_0 : LM.2.2.1 0 = 0 := by decide
theorem nLM_1 : 1 < LM.1 := by decide
theorem kLM_1 : LM.2.1 1 = 12 := by decide
theorem lLM_1 : LM.2.2.1 1 = 10 := by decide
theorem nLM_2 : 2 < LM.1 := by decide
theorem kLM_2 : LM.2.1 2 = 12 := by decide
theorem lLM_2 : LM.2.2.1 2 = 10 := by decide
theorem nLM_3 : 3 < LM.1 := by decide
theorem kLM_3 : LM.2.1 3 = 12 := by decide
theorem lLM_3 : LM.2.2.1 3 = 10 := by decide
theorem nLM_4 : 4 < LM.1 := by decide
theorem kLM_4 : LM.2.1 4 = 12 := by decide
theorem lLM_4 : LM.2.2.1 4 = 10 := by decide
theorem nLM_5 : 5 < LM.1 := by decide
theorem kLM_5 : LM.2.1 5 = 12 := by decide
theorem lLM_5 : LM.2.2.1 5 = 6 := by decide
theorem nLM_6 : 6 < LM.1 := by decide
theorem kLM_6 : LM.2.1 6 = 13 := by decide
theorem lLM_6 : LM.2.2.1 6 = 4 := by decide
theorem nLM_7 : 7 < LM.1 := by decide
theorem kLM_7 : LM.2.1 7 = 12 := by decide
theorem lLM_7 : LM.2.2.1 7 = 4 := by decide
theorem nLM_8 : 8 < LM.1 := by decide
theorem kLM_8 : LM.2.1 8 = 12 := by decide
theorem lLM_8 : LM.2.2.1 8 = 4 := by decide
theorem nLM_9 : 9 < LM.1 := by decide
theorem kLM_9 : LM.2.1 9 = 12 := by decide
theorem lLM_9 : LM.2.2.1 9 = 800 := by decide
theorem nLM_10 : 10 < LM.1 := by decide
theorem kLM_10 : LM.2.1 10 = 12 := by decide
theorem lLM_10 : LM.2.2.1 10 = 48 := by decide
theorem nLM_11 : 11 < LM.1 := by decide
theorem kLM_11 : LM.2.1 11 = 12 := by decide
theorem lLM_11 : LM.2.2.1 11 = 20 := by decide
theorem nLM_12 : 12 < LM.1 := by decide
theorem kLM_12 : LM.2.1 12 = 12 := by decide
theorem lLM_12 : LM.2.2.1 12 = 20 := by decide
theorem nLM_13 : 13 < LM.1 := by decide
theorem kLM_13 : LM.2.1 13 = 12 := by decide
theorem lLM_13 : LM.2.2.1 13 = 20 := by decide
theorem nLM_14 : 14 < LM.1 := by decide
theorem kLM_14 : LM.2.1 14 = 12 := by decide
theorem lLM_14 : LM.2.2.1 14 = 20 := by decide
theorem nLM_15 : 15 < LM.1 := by decide
theorem kLM_15 : LM.2.1 15 = 12 := by decide
theorem lLM_15 : LM.2.2.1 15 = 20 := by decide
theorem nLM_16 : 16 < LM.1 := by decide
theorem kLM_16 : LM.2.1 16 = 12 := by decide
theorem lLM_16 : LM.2.2.1 16 = 20 := by decide
theorem nLM_17 : 17 < LM.1 := by decide
theorem kLM_17 : LM.2.1 17 = 12 := by decide
theorem lLM_17 : LM.2.2.1 17 = 20 := by decide
theorem nLM_18 : 18 < LM.1 := by decide
theorem kLM_18 : LM.2.1 18 = 12 := by decide
theorem lLM_18 : LM.2.2.1 18 = 20 := by decide
theorem nLM_19 : 19 < LM.1 := by decide
theorem kLM_19 : LM.2.1 19 = 12 := by decide
theorem lLM_19 : LM.2.2.1 19 = 240 := by decide
theorem nLM_20 : 20 < LM.1 := by decide
theorem kLM_20 : LM.2.1 20 = 12 := by decide
theorem lLM_20 : LM.2.2.1 20 = 800 := by decide
theorem nLM_21 : 21 < LM.1 := by decide
theorem kLM_21 : LM.2.1 21 = 12 := by decide
theorem lLM_21 : LM.2.2.1 21 = 1407 := by decide
theorem nLM_22 : 22 < LM.1 := by decide
theorem kLM_22 : LM.2.1 22 = 12 := by decide
theorem lLM_22 : LM.2.2.1 22 = 10 := by decide
theorem nLM_23 : 23 < LM.1 := by decide
theorem kLM_23 : LM.2.1 23 = 12 := by decide
theorem lLM_23 : LM.2.2.1 23 = 10 := by decide
theorem nLM_24 : 24 < LM.1 := by decide
theorem kLM_24 : LM.2.1 24 = 12 := by decide
theorem lLM_24 : LM.2.2.1 24 = 10 := by decide
theorem nLM_25 : 25 < LM.1 := by decide
theorem kLM_25 : LM.2.1 25 = 12 := by decide
theorem lLM_25 : LM.2.2.1 25 = 10 := by decide
theorem nLM_26 : 26 < LM.1 := by decide
theorem kLM_26 : LM.2.1 26 = 12 := by decide
theorem lLM_26 : LM.2.2.1 26 = 200 := by decide
theorem nLM_27 : 27 < LM.1 := by decide
theorem kLM_27 : LM.2.1 27 = 13 := by decide
theorem lLM_27 : LM.2.2.1 27 = 10 := by decide
theorem rlLX_2_0 {i : Nat} (h : i < LX.1) (hk : LX.2.1 i = 2) : rfX i 0 < LX.1 ∧ LX.2.1 (rfX i 0) = 14 ∧ LX.2.2.1 (rfX i 0) = 10 := (by decide +kernel : ∀ i, i < 84 → KX i = 2 → rfX i 0 < 84 ∧ KX (rfX i 0) = 14 ∧ lenX (rfX i 0) = 10) i h hk
theorem rlLX_5_0 {i : Nat} (h : i < LX.1) (hk : LX.2.1 i = 5) : rfX i 0 < LX.1 ∧ LX.2.1 (rfX i 0) = 12 ∧ LX.2.2.1 (rfX i 0) = 12 := (by decide +kernel : ∀ i, i < 84 → KX i = 5 → rfX i 0 < 84 ∧ KX (rfX i 0) = 12 ∧ lenX (rfX i 0) = 12) i h hk
theorem rlLX_7_0 {i : Nat} (h : i < LX.1) (hk : LX.2.1 i = 7) : rfX i 0 < LX.1 ∧ LX.2.1 (rfX i 0) = 12 ∧ LX.2.2.1 (rfX i 0) = 200 := (by decide +kernel : ∀ i, i < 84 → KX i = 7 → rfX i 0 < 84 ∧ KX (rfX i 0) = 12 ∧ lenX (rfX i 0) = 200) i h hk
theorem elLX_14 {i m : Nat} (h : i < LX.1) (hk : LX.2.1 i = 14) (hm : m < 10) : rfX i m < LX.1 ∧ LX.2.1 (rfX i m) = 0 := (by decide +kernel : ∀ i, i < 84 → KX i = 14 → ∀ m, m < 10 → rfX i m < 84 ∧ KX (rfX i m) = 0) i h hk m hm
theorem elLX_15 {i m : Nat} (h : i < LX.1) (hk : LX.2.1 i = 15) (hm : m < 20) : rfX i m < LX.1 ∧ LX.2.1 (rfX i m) = 5 := (by decide +kernel : ∀ i, i < 84 → KX i = 15 → ∀ m, m < 20 → rfX i m < 84 ∧ KX (rfX i m) = 5) i h hk m hm
theorem elLX_16 {i m : Nat} (h : i < LX.1) (hk : LX.2.1 i = 16) (hm : m < 4) : rfX i m < LX.1 ∧ LX.2.1 (rfX i m) = 7 := (by decide +kernel : ∀ i, i < 84 → KX i = 16 → ∀ m, m < 4 → rfX i m < 84 ∧ KX (rfX i m) = 7) i h hk m hm
theorem cb_m100 : (Int8.ofInt (-100)).toInt32 = (-100) := by decide
theorem cb_6 : (Int8.ofInt 6).toInt32 = 6 := by decide
theorem cb_7 : (Int8.ofInt 7).toInt32 = 7 := by decide
theorem cb_8 : (Int8.ofInt 8).toInt32 = 8 := by decide
theorem cb_9 : (Int8.ofInt 9).toInt32 = 9 := by decide
theorem cb_10 : (Int8.ofInt 10).toInt32 = 10 := by decide
theorem cb_12 : (Int8.ofInt 12).toInt32 = 12 := by decide
theorem cb_15 : (Int8.ofInt 15).toInt32 = 15 := by decide
theorem cb_20 : (Int8.ofInt 20).toInt32 = 20 := by decide
theorem cb_24 : (Int8.ofInt 24).toInt32 = 24 := by decide
theorem cb_32 : (Int8.ofInt 32).toInt32 = 32 := by decide
theorem cb_36 : (Int8.ofInt 36).toInt32 = 36 := by decide
theorem cb_48 : (Int8.ofInt 48).toInt32 = 48 := by decide
theorem cb_50 : (Int8.ofInt 50).toInt32 = 50 := by decide
theorem cb_57 : (Int8.ofInt 57).toInt32 = 57 := by decide
theorem cb_60 : (Int8.ofInt 60).toInt32 = 60 := by decide
theorem cb_100 : (Int8.ofInt 100).toInt32 = 100 := by decide
theorem ci_m8 : Int32.ofInt (-8) = (-8) := by decide
theorem ci_m1 : Int32.ofInt (-1) = (-1) := by decide
theorem ci_0 : Int32.ofInt 0 = 0 := by decide
theorem ci_1 : Int32.ofInt 1 = 1 := by decide
theorem ci_2 : Int32.ofInt 2 = 2 := by decide
theorem ci_3 : Int32.ofInt 3 = 3 := by decide
theorem ci_4 : Int32.ofInt 4 = 4 := by decide
theorem ci_5 : Int32.ofInt 5 = 5 := by decide
theorem cs_200 : (Int16.ofInt 200).toInt32 = 200 := by decide
theorem cs_255 : (Int16.ofInt 255).toInt32 = 255 := by decide
theorem cs_1000 : (Int16.ofInt 1000).toInt32 = 1000 := by decide
theorem cs_9999 : (Int16.ofInt 9999).toInt32 = 9999 := by decide
theorem cs_10000 : (Int16.ofInt 10000).toInt32 = 10000 := by decide
abbrev qX0_isFallen : MD := (RX0, cX0_isFallen, 1, some .boolean, 0, 0)
abbrev qX0_isKind : MD := (RX0, cX0_isKind, 2, some .boolean, 0, 0)
abbrev qX0_loss : MD := (RX0, cX0_loss, 3, some .int, 1, 23)
abbrev qX0_wear : MD := (RX0, cX0_wear, 2, some .int, 0, 0)
abbrev qX0_scour : MD := (RX0, cX0_scour, 4, some .int, 0, 0)
abbrev qX0_weaken : MD := (RX0, cX0_weaken, 2, none, 1, 21)
abbrev qX0_gain : MD := (RX0, cX0_gain, 1, some .int, 0, 0)
abbrev qX0_coinsUpTo : MD := (RX0, cX0_coinsUpTo, 3, some .int, 1, 21)
abbrev qX0_mend : MD := (RX0, cX0_mend, 2, none, 1, 21)
abbrev qX0_becomeLike : MD := (RX0, cX0_becomeLike, 2, none, 0, 0)
abbrev qX1_write : MD := (RX1, cX1_write, 6, none, 0, 0)
abbrev qX1_read : MD := (RX1, cX1_read, 3, some .int, 0, 0)
abbrev qX2_has : MD := (RX2, cX2_has, 2, some .boolean, 1, 22)
abbrev qX2_build : MD := (RX2, cX2_build, 2, some .int, 0, 0)
abbrev qX2_fallen : MD := (RX2, cX2_fallen, 3, some .int, 1, 20)
abbrev qX2_houses : MD := (RX2, cX2_houses, 3, some .int, 0, 0)
abbrev qX2_hasDraw : MD := (RX2, cX2_hasDraw, 2, some .boolean, 1, 20)
abbrev qX2_blocked : MD := (RX2, cX2_blocked, 3, some .int, 2, 42)
abbrev qX2_sufferYear : MD := (RX2, cX2_sufferYear, 4, none, 3, 64)
abbrev qX2_becomeLike : MD := (RX2, cX2_becomeLike, 3, none, 1, 21)
abbrev qX2_forgetChosen : MD := (RX2, cX2_forgetChosen, 2, none, 0, 0)
abbrev qX2_weakestBelow : MD := (RX2, cX2_weakestBelow, 6, some .int, 1, 20)
abbrev qX3_has : MD := (RX3, cX3_has, 2, some .boolean, 1, 22)
abbrev qX3_make : MD := (RX3, cX3_make, 3, some .int, 0, 0)
abbrev qX3_allCoins : MD := (RX3, cX3_allCoins, 3, some .int, 0, 0)
abbrev qX3_coinsFor : MD := (RX3, cX3_coinsFor, 5, some .int, 2, 43)
abbrev qX3_nextToPay : MD := (RX3, cX3_nextToPay, 5, some .int, 2, 43)
abbrev qX4_isGift : MD := (RX4, cX4_isGift, 3, some .boolean, 7, 164)
abbrev qX4_isEndRead : MD := (RX4, cX4_isEndRead, 3, some .boolean, 6, 142)
abbrev qX4_areYearsRead : MD := (RX4, cX4_areYearsRead, 2, some .boolean, 6, 142)
abbrev qX4_toNextWord : MD := (RX4, cX4_toNextWord, 1, none, 0, 0)
abbrev qX4_isWord : MD := (RX4, cX4_isWord, 3, some .boolean, 5, 120)
abbrev qX4_number : MD := (RX4, cX4_number, 4, some .int, 1, 22)
abbrev qX5_isOpen : MD := (RX5, cX5_isOpen, 2, some .boolean, 0, 0)
abbrev qX5_isDue : MD := (RX5, cX5_isDue, 2, some .boolean, 1, 21)
abbrev qX5_canPay : MD := (RX5, cX5_canPay, 3, some .boolean, 1, 21)
abbrev qX5_serves : MD := (RX5, cX5_serves, 2, some .boolean, 0, 0)
abbrev qX5_breadth : MD := (RX5, cX5_breadth, 1, some .int, 0, 0)
abbrev qX5_paysAheadOf : MD := (RX5, cX5_paysAheadOf, 2, some .boolean, 1, 20)
abbrev qX5_receive : MD := (RX5, cX5_receive, 2, none, 0, 0)
abbrev qX5_pay : MD := (RX5, cX5_pay, 3, none, 0, 0)
abbrev qX5_lapse : MD := (RX5, cX5_lapse, 2, some .int, 0, 0)
abbrev qX6_add : MD := (RX6, cX6_add, 4, none, 0, 0)
abbrev qX6_read : MD := (RX6, cX6_read, 3, some .int, 0, 0)
abbrev qX7_begin : MD := (RX7, cX7_begin, 4, none, 0, 0)
abbrev qX7_mostInPlace : MD := (RX7, cX7_mostInPlace, 1, some .int, 0, 0)
abbrev qX7_write : MD := (RX7, cX7_write, 4, some .int, 0, 0)
abbrev qX7_hasPlaces : MD := (RX7, cX7_hasPlaces, 3, some .boolean, 1, 22)
abbrev qX7_inYear : MD := (RX7, cX7_inYear, 2, some .int, 1, 22)
abbrev qX8_addNumber : MD := (RX8, cX8_addNumber, 3, none, 0, 0)
abbrev qX9_arch : MD := (RX9, cX9_arch, 2, some .int, 1, 22)
abbrev qX9_set : MD := (RX9, cX9_set, 6, some .int, 2, 43)
abbrev qX9_about : MD := (RX9, cX9_about, 4, some .int, 5, 110)
abbrev qX9_isOf : MD := (RX9, cX9_isOf, 3, some .int, 2, 43)
abbrev qX9_sheet : MD := (RX9, cX9_sheet, 4, some .int, 2, 42)
abbrev qX9_enter : MD := (RX9, cX9_enter, 5, some .int, 2, 42)
abbrev qX9_copy : MD := (RX9, cX9_copy, 8, some .int, 2, 60)
abbrev qX9_lose : MD := (RX9, cX9_lose, 2, some .int, 2, 42)
abbrev qX9_feed : MD := (RX9, cX9_feed, 4, some .int, 1, 22)
abbrev qX9_trim : MD := (RX9, cX9_trim, 2, some .int, 1, 22)
abbrev qX9_gift : MD := (RX9, cX9_gift, 3, some .int, 8, 186)
abbrev qX9_purse : MD := (RX9, cX9_purse, 4, some .int, 2, 43)
abbrev qX9_funds : MD := (RX9, cX9_funds, 2, some .int, 3, 67)
abbrev qX9_rule : MD := (RX9, cX9_rule, 4, some .int, 1, 22)
abbrev qX9_spend : MD := (RX9, cX9_spend, 3, some .int, 4, 93)
abbrev qX9_work : MD := (RX9, cX9_work, 5, some .int, 5, 116)
abbrev qX9_years : MD := (RX9, cX9_years, 3, some .int, 6, 138)
abbrev qX9_row : MD := (RX9, cX9_row, 3, some .int, 1, 22)
abbrev qX9_roll : MD := (RX9, cX9_roll, 3, some .int, 1, 22)
abbrev qX9_sum : MD := (RX9, cX9_sum, 1, some .int, 1, 22)
abbrev qX9_spent : MD := (RX9, cX9_spent, 3, some .int, 3, 64)
abbrev qX9_count : MD := (RX9, cX9_count, 2, some .int, 2, 42)
abbrev qX9_isWithin : MD := (RX9, cX9_isWithin, 3, some .boolean, 0, 0)
abbrev qX9_isSheet : MD := (RX9, cX9_isSheet, 1, some .boolean, 1, 22)
abbrev qX9_isEnd : MD := (RX9, cX9_isEnd, 2, some .boolean, 2, 43)
abbrev qX9_mostOfRule : MD := (RX9, cX9_mostOfRule, 1, some .int, 0, 0)
abbrev qX9_sheetsThere : MD := (RX9, cX9_sheetsThere, 3, some .int, 0, 0)
abbrev qX9_yearOfFall : MD := (RX9, cX9_yearOfFall, 4, some .int, 4, 87)
abbrev qX9_bringGift : MD := (RX9, cX9_bringGift, 2, none, 1, 23)
abbrev qX9_takeCoins : MD := (RX9, cX9_takeCoins, 7, some .int, 3, 67)
abbrev qX9_workFor : MD := (RX9, cX9_workFor, 4, some .int, 4, 93)
abbrev qX9_lapsePurses : MD := (RX9, cX9_lapsePurses, 2, none, 1, 23)
abbrev qX9_bringGiftsOfYear : MD := (RX9, cX9_bringGiftsOfYear, 2, none, 2, 44)
abbrev qX9_bringTolls : MD := (RX9, cX9_bringTolls, 5, none, 2, 43)
abbrev qX9_bringRents : MD := (RX9, cX9_bringRents, 2, none, 1, 23)
abbrev qX9_keepUp : MD := (RX9, cX9_keepUp, 3, none, 5, 116)
abbrev qX10_isIn : MD := (RX10, cX10_isIn, 3, some .boolean, 0, 0)
abbrev qX10_isArch : MD := (RX10, cX10_isArch, 2, some .boolean, 1, 22)
abbrev qX10_told : MD := (RX10, cX10_told, 3, none, 0, 0)
abbrev qX10_arch : MD := (RX10, cX10_arch, 2, some .int, 1, 22)
abbrev qX10_set : MD := (RX10, cX10_set, 5, some .int, 2, 43)
abbrev qX10_numberOf : MD := (RX10, cX10_numberOf, 3, some .int, 0, 0)
abbrev qX10_asItIs : MD := (RX10, cX10_asItIs, 2, none, 0, 0)
abbrev qX10_findLosses : MD := (RX10, cX10_findLosses, 7, none, 1, 22)
abbrev qX10_lose : MD := (RX10, cX10_lose, 2, none, 0, 0)
abbrev qX10_toldOf : MD := (RX10, cX10_toldOf, 3, some .int, 2, 48)
abbrev qX10_spentAt : MD := (RX10, cX10_spentAt, 4, some .int, 0, 0)
abbrev qX10_about : MD := (RX10, cX10_about, 3, some .int, 3, 70)
abbrev qX10_isOf : MD := (RX10, cX10_isOf, 3, some .int, 2, 43)
abbrev qX10_isSheet : MD := (RX10, cX10_isSheet, 1, some .boolean, 1, 22)
abbrev qX10_sheet : MD := (RX10, cX10_sheet, 5, some .int, 2, 42)
abbrev qX10_enter : MD := (RX10, cX10_enter, 5, some .int, 2, 42)
abbrev qX10_copy : MD := (RX10, cX10_copy, 7, some .int, 2, 42)
abbrev qX10_lose_ : MD := (RX10, cX10_lose_, 2, some .int, 2, 42)
abbrev qX10_four : MD := (RX10, cX10_four, 3, none, 0, 0)
abbrev qX10_feed : MD := (RX10, cX10_feed, 4, some .int, 1, 22)
abbrev qX10_trim : MD := (RX10, cX10_trim, 2, some .int, 1, 22)
abbrev qX10_next : MD := (RX10, cX10_next, 1, none, 0, 0)
abbrev qX10_here : MD := (RX10, cX10_here, 1, some .int, 0, 0)
abbrev qX10_isWord : MD := (RX10, cX10_isWord, 5, some .boolean, 0, 0)
abbrev qX10_number : MD := (RX10, cX10_number, 3, some .int, 1, 22)
abbrev qX10_endOf : MD := (RX10, cX10_endOf, 1, some .int, 1, 24)
abbrev qX10_readGift : MD := (RX10, cX10_readGift, 2, some .int, 2, 44)
abbrev qX10_comes : MD := (RX10, cX10_comes, 4, none, 1, 22)
abbrev qX10_gift : MD := (RX10, cX10_gift, 3, some .int, 3, 65)
abbrev qX10_isPurse : MD := (RX10, cX10_isPurse, 2, some .boolean, 1, 22)
abbrev qX10_isOpen : MD := (RX10, cX10_isOpen, 2, some .boolean, 1, 22)
abbrev qX10_purse : MD := (RX10, cX10_purse, 3, some .int, 2, 43)
abbrev qX10_isEnd : MD := (RX10, cX10_isEnd, 2, some .boolean, 1, 22)
abbrev qX10_serves : MD := (RX10, cX10_serves, 4, some .boolean, 0, 0)
abbrev qX10_fundsOf : MD := (RX10, cX10_fundsOf, 4, some .int, 2, 43)
abbrev qX10_funds : MD := (RX10, cX10_funds, 2, some .int, 3, 66)
abbrev qX10_turnOf : MD := (RX10, cX10_turnOf, 2, some .int, 0, 0)
abbrev qX10_isSooner : MD := (RX10, cX10_isSooner, 3, some .boolean, 1, 21)
abbrev qX10_write : MD := (RX10, cX10_write, 5, none, 0, 0)
abbrev qX10_taken : MD := (RX10, cX10_taken, 6, none, 2, 43)
abbrev qX10_rule : MD := (RX10, cX10_rule, 4, some .int, 1, 22)
abbrev qX10_spend : MD := (RX10, cX10_spend, 3, some .int, 3, 68)
abbrev qX10_gain : MD := (RX10, cX10_gain, 2, some .int, 0, 0)
abbrev qX10_worked : MD := (RX10, cX10_worked, 6, some .int, 3, 68)
abbrev qX10_work : MD := (RX10, cX10_work, 3, some .int, 4, 93)
abbrev qX10_keep : MD := (RX10, cX10_keep, 5, none, 4, 93)
abbrev qX10_goOn : MD := (RX10, cX10_goOn, 6, none, 5, 117)
abbrev qX10_years : MD := (RX10, cX10_years, 3, some .int, 6, 142)
abbrev qX10_row : MD := (RX10, cX10_row, 3, some .int, 1, 22)
abbrev qX10_roll : MD := (RX10, cX10_roll, 3, some .int, 1, 22)
abbrev qX10_sum : MD := (RX10, cX10_sum, 3, some .int, 0, 0)
abbrev qX10_spent : MD := (RX10, cX10_spent, 3, some .int, 2, 43)
abbrev qX10_count : MD := (RX10, cX10_count, 4, some .int, 0, 0)
abbrev qJ0_length_8abf5 : MD := (RJ0, cJ0_length_8abf5, 1, some .int, 1, 20)
abbrev qJ0_charAt_5068e : MD := (RJ0, cJ0_charAt_5068e, 2, some .char, 3, 64)
abbrev qJ0_coder_7d493 : MD := (RJ0, cJ0_coder_7d493, 1, some .byte, 0, 0)
abbrev qJ0_isLatin1_aae02 : MD := (RJ0, cJ0_isLatin1_aae02, 1, some .boolean, 0, 0)
abbrev qJ1_charAt_3b067 : MD := (RJ1, cJ1_charAt_3b067, 2, some .char, 2, 43)
abbrev qJ0_checkIndex_df160 : MD := (RJ0, cJ0_checkIndex_df160, 2, none, 1, 22)
abbrev qJ3_checkIndex_8e157 : MD := (RJ3, cJ3_checkIndex_8e157, 3, some .int, 0, 0)
theorem inT_0 : ∀ x ∈ u_ws RX0 TX0 6, x ∈ TBL := by decide +kernel
theorem inT_1 : ∀ x ∈ u_ws RX1 TX1 3, x ∈ TBL := by decide +kernel
theorem inT_2 : ∀ x ∈ u_ws RX2 TX2 2, x ∈ TBL := by decide +kernel
theorem inT_3 : ∀ x ∈ u_ws RX3 TX3 2, x ∈ TBL := by decide +kernel
theorem inT_4 : ∀ x ∈ u_ws RX4 TX4 8, x ∈ TBL := by decide +kernel
theorem inT_5 : ∀ x ∈ u_ws RX5 TX5 9, x ∈ TBL := by decide +kernel
theorem inT_6 : ∀ x ∈ u_ws RX6 TX6 1, x ∈ TBL := by decide +kernel
theorem inT_7 : ∀ x ∈ u_ws RX7 TX7 4, x ∈ TBL := by decide +kernel
theorem inT_8 : ∀ x ∈ u_ws RX8 TX8 2, x ∈ TBL := by decide +kernel
theorem inT_9 : ∀ x ∈ u_ws RX9 TX9 10, x ∈ TBL := by decide +kernel
theorem inT_10 : ∀ x ∈ u_ws RX10 TX10 41, x ∈ TBL := by decide +kernel
theorem w_0 : Cond.selects RX0 yX0_wear yX0_wear ∈ TBL := mTi 0 (by decide +kernel) rfl
theorem w_1 : Cond.selects RX0 yX0_scour yX0_scour ∈ TBL := mTi 1 (by decide +kernel) rfl
theorem w_2 : Cond.selects RX9 yX9_yearOfFall yX9_yearOfFall ∈ TBL := mTi 2 (by decide +kernel) rfl
theorem w_3 : Cond.selects RX4 yX4_toNextWord yX4_toNextWord ∈ TBL := mTi 3 (by decide +kernel) rfl
theorem w_4 : Cond.selects RX4 yX4_number yX4_number ∈ TBL := mTi 4 (by decide +kernel) rfl
theorem w_5 : Cond.selects RX4 yX4_isWord yX4_isWord ∈ TBL := mTi 5 (by decide +kernel) rfl
theorem w_6 : Cond.selects RX4 yX4_isEndRead yX4_isEndRead ∈ TBL := mTi 6 (by decide +kernel) rfl
theorem w_7 : Cond.selects RX4 yX4_areYearsRead yX4_areYearsRead ∈ TBL := mTi 7 (by decide +kernel) rfl
theorem w_8 : Cond.selects RX9 yX9_bringGift yX9_bringGift ∈ TBL := mTi 8 (by decide +kernel) rfl
theorem w_9 : Cond.selects RX9 yX9_isEnd yX9_isEnd ∈ TBL := mTi 9 (by decide +kernel) rfl
theorem w_10 : Cond.selects RX5 yX5_serves yX5_serves ∈ TBL := mTi 10 (by decide +kernel) rfl
theorem w_11 : Cond.selects RX9 yX9_takeCoins yX9_takeCoins ∈ TBL := mTi 11 (by decide +kernel) rfl
theorem w_12 : Cond.selects RX5 yX5_breadth yX5_breadth ∈ TBL := mTi 12 (by decide +kernel) rfl
theorem w_13 : Cond.selects RX0 yX0_gain yX0_gain ∈ TBL := mTi 13 (by decide +kernel) rfl
theorem w_14 : Cond.selects RX9 yX9_workFor yX9_workFor ∈ TBL := mTi 14 (by decide +kernel) rfl
theorem w_15 : Cond.selects RX9 yX9_lapsePurses yX9_lapsePurses ∈ TBL := mTi 15 (by decide +kernel) rfl
theorem w_16 : Cond.selects RX9 yX9_bringGiftsOfYear yX9_bringGiftsOfYear ∈ TBL := mTi 16 (by decide +kernel) rfl
theorem w_17 : Cond.selects RX9 yX9_bringTolls yX9_bringTolls ∈ TBL := mTi 17 (by decide +kernel) rfl
theorem w_18 : Cond.selects RX9 yX9_bringRents yX9_bringRents ∈ TBL := mTi 18 (by decide +kernel) rfl
theorem w_19 : Cond.selects RX9 yX9_keepUp yX9_keepUp ∈ TBL := mTi 19 (by decide +kernel) rfl
theorem w_20 : Cond.selects RX9 yX9_sheetsThere yX9_sheetsThere ∈ TBL := mTi 20 (by decide +kernel) rfl
theorem w_21 : Cond.selects RX10 yX10_isArch yX10_isArch ∈ TBL := mTi 21 (by decide +kernel) rfl
theorem w_22 : Cond.selects RX10 yX10_asItIs yX10_asItIs ∈ TBL := mTi 22 (by decide +kernel) rfl
theorem w_23 : Cond.selects RX10 yX10_findLosses yX10_findLosses ∈ TBL := mTi 23 (by decide +kernel) rfl
theorem w_24 : Cond.selects RX10 yX10_numberOf yX10_numberOf ∈ TBL := mTi 24 (by decide +kernel) rfl
theorem w_25 : Cond.selects RX10 yX10_toldOf yX10_toldOf ∈ TBL := mTi 25 (by decide +kernel) rfl
theorem w_26 : Cond.selects RX10 yX10_lose yX10_lose ∈ TBL := mTi 26 (by decide +kernel) rfl
theorem w_27 : Cond.selects RX10 yX10_spentAt yX10_spentAt ∈ TBL := mTi 27 (by decide +kernel) rfl
theorem w_28 : Cond.selects RX10 yX10_four yX10_four ∈ TBL := mTi 28 (by decide +kernel) rfl
theorem w_29 : Cond.selects RX10 yX10_readGift yX10_readGift ∈ TBL := mTi 29 (by decide +kernel) rfl
theorem w_30 : Cond.selects RX10 yX10_next yX10_next ∈ TBL := mTi 30 (by decide +kernel) rfl
theorem w_31 : Cond.selects RX10 yX10_number yX10_number ∈ TBL := mTi 31 (by decide +kernel) rfl
theorem w_32 : Cond.selects RX10 yX10_here yX10_here ∈ TBL := mTi 32 (by decide +kernel) rfl
theorem w_33 : Cond.selects RX10 yX10_isWord yX10_isWord ∈ TBL := mTi 33 (by decide +kernel) rfl
theorem w_34 : Cond.selects RX10 yX10_endOf yX10_endOf ∈ TBL := mTi 34 (by decide +kernel) rfl
theorem w_35 : Cond.selects RX10 yX10_comes yX10_comes ∈ TBL := mTi 35 (by decide +kernel) rfl
theorem w_36 : Cond.selects RX10 yX10_told yX10_told ∈ TBL := mTi 36 (by decide +kernel) rfl
theorem w_37 : Cond.selects RX10 yX10_isPurse yX10_isPurse ∈ TBL := mTi 37 (by decide +kernel) rfl
theorem w_38 : Cond.selects RX10 yX10_isOpen yX10_isOpen ∈ TBL := mTi 38 (by decide +kernel) rfl
theorem w_39 : Cond.selects RX10 yX10_isEnd yX10_isEnd ∈ TBL := mTi 39 (by decide +kernel) rfl
theorem w_40 : Cond.selects RX10 yX10_fundsOf yX10_fundsOf ∈ TBL := mTi 40 (by decide +kernel) rfl
theorem w_41 : Cond.selects RX10 yX10_serves yX10_serves ∈ TBL := mTi 41 (by decide +kernel) rfl
theorem w_42 : Cond.selects RX10 yX10_taken yX10_taken ∈ TBL := mTi 42 (by decide +kernel) rfl
theorem w_43 : Cond.selects RX10 yX10_isSooner yX10_isSooner ∈ TBL := mTi 43 (by decide +kernel) rfl
theorem w_44 : Cond.selects RX10 yX10_turnOf yX10_turnOf ∈ TBL := mTi 44 (by decide +kernel) rfl
theorem w_45 : Cond.selects RX10 yX10_write yX10_write ∈ TBL := mTi 45 (by decide +kernel) rfl
theorem w_46 : Cond.selects RX10 yX10_worked yX10_worked ∈ TBL := mTi 46 (by decide +kernel) rfl
theorem w_47 : Cond.selects RX10 yX10_gain yX10_gain ∈ TBL := mTi 47 (by decide +kernel) rfl
theorem w_48 : Cond.selects RX10 yX10_goOn yX10_goOn ∈ TBL := mTi 48 (by decide +kernel) rfl
theorem w_49 : Cond.selects RX10 yX10_keep yX10_keep ∈ TBL := mTi 49 (by decide +kernel) rfl
theorem w_51 : Cond.initialized RX9 ∈ TBL := mTi 51 (by decide +kernel) rfl
theorem w_52 : Cond.initialized RX2 ∈ TBL := mTi 52 (by decide +kernel) rfl
theorem w_53 : Cond.initialized RX0 ∈ TBL := mTi 53 (by decide +kernel) rfl
theorem w_54 : Cond.initialized RX8 ∈ TBL := mTi 54 (by decide +kernel) rfl
theorem w_55 : Cond.initialized RX4 ∈ TBL := mTi 55 (by decide +kernel) rfl
theorem w_56 : Cond.initialized RX3 ∈ TBL := mTi 56 (by decide +kernel) rfl
theorem w_57 : Cond.initialized RX5 ∈ TBL := mTi 57 (by decide +kernel) rfl
theorem w_58 : Cond.initialized RX1 ∈ TBL := mTi 58 (by decide +kernel) rfl
theorem w_59 : Cond.initialized RX6 ∈ TBL := mTi 59 (by decide +kernel) rfl
theorem w_60 : Cond.initialized RX7 ∈ TBL := mTi 60 (by decide +kernel) rfl
theorem w_61 : Cond.initialized RX10 ∈ TBL := mTi 61 (by decide +kernel) rfl
theorem w_62 : Cond.initialized "java/lang/Math" ∈ TBL := mTi 62 (by decide +kernel) rfl
theorem w_63 : Cond.initialized "java/lang/System" ∈ TBL := mTi 63 (by decide +kernel) rfl
theorem w_64 : Cond.initialized RJ0 ∈ TBL := mTi 64 (by decide +kernel) rfl
theorem w_65 : Cond.initialized RJ1 ∈ TBL := mTi 65 (by decide +kernel) rfl
theorem w_66 : Cond.initialized RJ3 ∈ TBL := mTi 66 (by decide +kernel) rfl
theorem w_89 : Cond.fieldLink RX0 15 RX0 "kind" "I" ∈ TBL := mTi 89 (by decide +kernel) rfl
theorem w_90 : Cond.fieldLinkNest RX2 26 RX0 "kind" "I" "BridgeHouse" ∈ NWL := mNi 90 (by decide +kernel) rfl
theorem w_91 : Cond.fieldLinkNest RX9 102 RX0 "kind" "I" "BridgeHouse" ∈ NWL := mNi 91 (by decide +kernel) rfl
theorem w_92 : Cond.fieldLink RX0 9 RX0 "strength" "I" ∈ TBL := mTi 92 (by decide +kernel) rfl
theorem w_93 : Cond.fieldLinkNest RX2 29 RX0 "strength" "I" "BridgeHouse" ∈ NWL := mNi 93 (by decide +kernel) rfl
theorem w_94 : Cond.fieldLinkNest RX9 105 RX0 "strength" "I" "BridgeHouse" ∈ NWL := mNi 94 (by decide +kernel) rfl
theorem w_95 : Cond.fieldLinkNest RX9 96 RX0 "houses" "I" "BridgeHouse" ∈ NWL := mNi 95 (by decide +kernel) rfl
theorem w_96 : Cond.fieldLink RX0 30 RX0 "houses" "I" ∈ TBL := mTi 96 (by decide +kernel) rfl
theorem w_97 : Cond.fieldLinkNest RX2 36 RX0 "houses" "I" "BridgeHouse" ∈ NWL := mNi 97 (by decide +kernel) rfl
theorem w_98 : Cond.fieldLinkNest RX9 99 RX0 "wheel" "I" "BridgeHouse" ∈ NWL := mNi 98 (by decide +kernel) rfl
theorem w_99 : Cond.fieldLinkNest RX2 39 RX0 "wheel" "I" "BridgeHouse" ∈ NWL := mNi 99 (by decide +kernel) rfl
theorem w_100 : Cond.fieldLink RX0 38 RX0 "wheel" "I" ∈ TBL := mTi 100 (by decide +kernel) rfl
theorem w_101 : Cond.fieldLinkNest RX9 125 RX0 "paid" "I" "BridgeHouse" ∈ NWL := mNi 101 (by decide +kernel) rfl
theorem w_102 : Cond.fieldLink RX0 47 RX0 "paid" "I" ∈ TBL := mTi 102 (by decide +kernel) rfl
theorem w_103 : Cond.fieldLinkNest RX2 61 RX0 "isChosen" "Z" "BridgeHouse" ∈ NWL := mNi 103 (by decide +kernel) rfl
theorem w_104 : Cond.fieldLinkNest RX9 322 RX0 "isChosen" "Z" "BridgeHouse" ∈ NWL := mNi 104 (by decide +kernel) rfl
theorem w_118 : Cond.fieldLink RX2 11 RX2 "arches" "[LBridgeHouse$Arch;" ∈ TBL := mTi 118 (by decide +kernel) rfl
theorem w_119 : Cond.fieldLinkNest RX9 85 RX2 "arches" "[LBridgeHouse$Arch;" "BridgeHouse" ∈ NWL := mNi 119 (by decide +kernel) rfl
theorem w_120 : Cond.fieldLink RX2 18 RX2 "size" "I" ∈ TBL := mTi 120 (by decide +kernel) rfl
theorem w_121 : Cond.fieldLinkNest RX9 72 RX2 "size" "I" "BridgeHouse" ∈ NWL := mNi 121 (by decide +kernel) rfl
theorem w_135 : Cond.fieldLink RX8 9 RX8 "bytes" "[B" ∈ TBL := mTi 135 (by decide +kernel) rfl
theorem w_136 : Cond.fieldLinkNest RX4 79 RX8 "bytes" "[B" "BridgeHouse" ∈ NWL := mNi 136 (by decide +kernel) rfl
theorem w_137 : Cond.fieldLink RX8 15 RX8 "size" "I" ∈ TBL := mTi 137 (by decide +kernel) rfl
theorem w_138 : Cond.fieldLinkNest RX4 49 RX8 "size" "I" "BridgeHouse" ∈ NWL := mNi 138 (by decide +kernel) rfl
theorem w_139 : Cond.fieldLinkNest RX9 168 RX8 "size" "I" "BridgeHouse" ∈ NWL := mNi 139 (by decide +kernel) rfl
theorem w_152 : Cond.fieldLink RX4 9 RX4 "tape" "LBridgeHouse$Tape;" ∈ TBL := mTi 152 (by decide +kernel) rfl
theorem w_153 : Cond.fieldLink RX4 46 RX4 "start" "I" ∈ TBL := mTi 153 (by decide +kernel) rfl
theorem w_154 : Cond.fieldLinkNest RX9 176 RX4 "start" "I" "BridgeHouse" ∈ NWL := mNi 154 (by decide +kernel) rfl
theorem w_155 : Cond.fieldLink RX4 15 RX4 "stop" "I" ∈ TBL := mTi 155 (by decide +kernel) rfl
theorem w_156 : Cond.fieldLink RX4 26 RX4 "given" "I" ∈ TBL := mTi 156 (by decide +kernel) rfl
theorem w_157 : Cond.fieldLinkNest RX3 40 RX4 "given" "I" "BridgeHouse" ∈ NWL := mNi 157 (by decide +kernel) rfl
theorem w_158 : Cond.fieldLinkNest RX3 32 RX4 "end" "I" "BridgeHouse" ∈ NWL := mNi 158 (by decide +kernel) rfl
theorem w_159 : Cond.fieldLink RX4 56 RX4 "end" "I" ∈ TBL := mTi 159 (by decide +kernel) rfl
theorem w_160 : Cond.fieldLinkNest RX3 35 RX4 "from" "I" "BridgeHouse" ∈ NWL := mNi 160 (by decide +kernel) rfl
theorem w_161 : Cond.fieldLink RX4 67 RX4 "from" "I" ∈ TBL := mTi 161 (by decide +kernel) rfl
theorem w_162 : Cond.fieldLinkNest RX9 184 RX4 "from" "I" "BridgeHouse" ∈ NWL := mNi 162 (by decide +kernel) rfl
theorem w_163 : Cond.fieldLinkNest RX3 39 RX4 "till" "I" "BridgeHouse" ∈ NWL := mNi 163 (by decide +kernel) rfl
theorem w_164 : Cond.fieldLink RX4 70 RX4 "till" "I" ∈ TBL := mTi 164 (by decide +kernel) rfl
theorem w_165 : Cond.fieldLinkNest RX3 44 RX4 "yearly" "I" "BridgeHouse" ∈ NWL := mNi 165 (by decide +kernel) rfl
theorem w_166 : Cond.fieldLink RX4 77 RX4 "yearly" "I" ∈ TBL := mTi 166 (by decide +kernel) rfl
theorem w_197 : Cond.fieldLink RX5 9 RX5 "paid" "[I" ∈ TBL := mTi 197 (by decide +kernel) rfl
theorem w_198 : Cond.fieldLinkNest RX9 271 RX5 "paid" "[I" "BridgeHouse" ∈ NWL := mNi 198 (by decide +kernel) rfl
theorem w_199 : Cond.fieldLinkNest RX3 22 RX5 "end" "I" "BridgeHouse" ∈ NWL := mNi 199 (by decide +kernel) rfl
theorem w_200 : Cond.fieldLink RX5 35 RX5 "end" "I" ∈ TBL := mTi 200 (by decide +kernel) rfl
theorem w_201 : Cond.fieldLinkNest RX9 196 RX5 "end" "I" "BridgeHouse" ∈ NWL := mNi 201 (by decide +kernel) rfl
theorem w_202 : Cond.fieldLink RX5 15 RX5 "from" "I" ∈ TBL := mTi 202 (by decide +kernel) rfl
theorem w_203 : Cond.fieldLinkNest RX3 38 RX5 "from" "I" "BridgeHouse" ∈ NWL := mNi 203 (by decide +kernel) rfl
theorem w_204 : Cond.fieldLinkNest RX9 201 RX5 "from" "I" "BridgeHouse" ∈ NWL := mNi 204 (by decide +kernel) rfl
theorem w_205 : Cond.fieldLinkNest RX3 25 RX5 "till" "I" "BridgeHouse" ∈ NWL := mNi 205 (by decide +kernel) rfl
theorem w_206 : Cond.fieldLink RX5 19 RX5 "till" "I" ∈ TBL := mTi 206 (by decide +kernel) rfl
theorem w_207 : Cond.fieldLinkNest RX9 202 RX5 "till" "I" "BridgeHouse" ∈ NWL := mNi 207 (by decide +kernel) rfl
theorem w_208 : Cond.fieldLinkNest RX3 43 RX5 "given" "I" "BridgeHouse" ∈ NWL := mNi 208 (by decide +kernel) rfl
theorem w_209 : Cond.fieldLinkNest RX9 285 RX5 "given" "I" "BridgeHouse" ∈ NWL := mNi 209 (by decide +kernel) rfl
theorem w_210 : Cond.fieldLink RX5 22 RX5 "yearly" "I" ∈ TBL := mTi 210 (by decide +kernel) rfl
theorem w_211 : Cond.fieldLinkNest RX3 47 RX5 "yearly" "I" "BridgeHouse" ∈ NWL := mNi 211 (by decide +kernel) rfl
theorem w_212 : Cond.fieldLinkNest RX9 208 RX5 "yearly" "I" "BridgeHouse" ∈ NWL := mNi 212 (by decide +kernel) rfl
theorem w_213 : Cond.fieldLink RX5 29 RX5 "coins" "I" ∈ TBL := mTi 213 (by decide +kernel) rfl
theorem w_214 : Cond.fieldLinkNest RX3 48 RX5 "coins" "I" "BridgeHouse" ∈ NWL := mNi 214 (by decide +kernel) rfl
theorem w_215 : Cond.fieldLinkNest RX9 205 RX5 "coins" "I" "BridgeHouse" ∈ NWL := mNi 215 (by decide +kernel) rfl
theorem w_216 : Cond.fieldLink RX5 42 RX5 "came" "I" ∈ TBL := mTi 216 (by decide +kernel) rfl
theorem w_217 : Cond.fieldLinkNest RX9 214 RX5 "came" "I" "BridgeHouse" ∈ NWL := mNi 217 (by decide +kernel) rfl
theorem w_218 : Cond.fieldLink RX5 45 RX5 "lapsed" "I" ∈ TBL := mTi 218 (by decide +kernel) rfl
theorem w_219 : Cond.fieldLinkNest RX9 217 RX5 "lapsed" "I" "BridgeHouse" ∈ NWL := mNi 219 (by decide +kernel) rfl
theorem w_240 : Cond.fieldLink RX3 11 RX3 "purses" "[LBridgeHouse$Purse;" ∈ TBL := mTi 240 (by decide +kernel) rfl
theorem w_241 : Cond.fieldLinkNest RX9 187 RX3 "purses" "[LBridgeHouse$Purse;" "BridgeHouse" ∈ NWL := mNi 241 (by decide +kernel) rfl
theorem w_242 : Cond.fieldLink RX3 17 RX3 "size" "I" ∈ TBL := mTi 242 (by decide +kernel) rfl
theorem w_243 : Cond.fieldLinkNest RX9 179 RX3 "size" "I" "BridgeHouse" ∈ NWL := mNi 243 (by decide +kernel) rfl
theorem w_255 : Cond.fieldLink RX1 9 RX1 "cells" "[I" ∈ TBL := mTi 255 (by decide +kernel) rfl
theorem w_256 : Cond.fieldLink RX1 15 RX1 "oldest" "I" ∈ TBL := mTi 256 (by decide +kernel) rfl
theorem w_257 : Cond.fieldLink RX1 19 RX1 "size" "I" ∈ TBL := mTi 257 (by decide +kernel) rfl
theorem w_258 : Cond.fieldLinkNest RX9 262 RX1 "size" "I" "BridgeHouse" ∈ NWL := mNi 258 (by decide +kernel) rfl
theorem w_272 : Cond.fieldLink RX6 9 RX6 "cells" "[I" ∈ TBL := mTi 272 (by decide +kernel) rfl
theorem w_281 : Cond.fieldLink RX7 9 RX7 "places" "[I" ∈ TBL := mTi 281 (by decide +kernel) rfl
theorem w_282 : Cond.fieldLinkNest RX9 159 RX7 "places" "[I" "BridgeHouse" ∈ NWL := mNi 282 (by decide +kernel) rfl
theorem w_283 : Cond.fieldLink RX7 15 RX7 "isMissing" "Z" ∈ TBL := mTi 283 (by decide +kernel) rfl
theorem w_284 : Cond.fieldLinkNest RX9 139 RX7 "isMissing" "Z" "BridgeHouse" ∈ NWL := mNi 284 (by decide +kernel) rfl
theorem w_285 : Cond.fieldLink RX7 19 RX7 "width" "I" ∈ TBL := mTi 285 (by decide +kernel) rfl
theorem w_286 : Cond.fieldLinkNest RX9 152 RX7 "width" "I" "BridgeHouse" ∈ NWL := mNi 286 (by decide +kernel) rfl
theorem w_287 : Cond.fieldLink RX7 23 RX7 "size" "I" ∈ TBL := mTi 287 (by decide +kernel) rfl
theorem w_288 : Cond.fieldLinkNest RX9 144 RX7 "size" "I" "BridgeHouse" ∈ NWL := mNi 288 (by decide +kernel) rfl
theorem w_298 : Cond.fieldLink RX9 12 RX9 "bridge" "LBridgeHouse$Bridge;" ∈ TBL := mTi 298 (by decide +kernel) rfl
theorem w_299 : Cond.fieldLink RX9 16 RX9 "ahead" "LBridgeHouse$Bridge;" ∈ TBL := mTi 299 (by decide +kernel) rfl
theorem w_300 : Cond.fieldLink RX9 21 RX9 "sheets" "[LBridgeHouse$Sheet;" ∈ TBL := mTi 300 (by decide +kernel) rfl
theorem w_301 : Cond.fieldLink RX9 28 RX9 "tape" "LBridgeHouse$Tape;" ∈ TBL := mTi 301 (by decide +kernel) rfl
theorem w_302 : Cond.fieldLink RX9 37 RX9 "text" "LBridgeHouse$GiftText;" ∈ TBL := mTi 302 (by decide +kernel) rfl
theorem w_303 : Cond.fieldLink RX9 44 RX9 "chest" "LBridgeHouse$Chest;" ∈ TBL := mTi 303 (by decide +kernel) rfl
theorem w_304 : Cond.fieldLink RX9 51 RX9 "book" "LBridgeHouse$Book;" ∈ TBL := mTi 304 (by decide +kernel) rfl
theorem w_305 : Cond.fieldLink RX9 58 RX9 "rolls" "LBridgeHouse$Rolls;" ∈ TBL := mTi 305 (by decide +kernel) rfl
theorem w_306 : Cond.fieldLink RX9 62 RX9 "rules" "[I" ∈ TBL := mTi 306 (by decide +kernel) rfl
theorem w_307 : Cond.fieldLink RX9 108 RX9 "year" "I" ∈ TBL := mTi 307 (by decide +kernel) rfl
theorem w_333 : Cond.methodLink RX9 67 yX9_isWithin ∈ TBL := mTi 333 (by decide +kernel) rfl
theorem w_334 : Cond.static yX9_isWithin ∈ TBL := mTi 334 (by decide +kernel) rfl
theorem w_335 : Cond.code yX9_isWithin cX9_isWithin 3 (some .boolean) ∈ TBL := mTi 335 (by decide +kernel) rfl
theorem w_336 : Cond.constant RX9 71 (-1000000001) ∈ TBL := mTi 336 (by decide +kernel) rfl
theorem w_337 : Cond.constant RX9 76 (-1000000003) ∈ TBL := mTi 337 (by decide +kernel) rfl
theorem w_338 : Cond.methodLink RX9 77 yX2_build ∈ TBL := mTi 338 (by decide +kernel) rfl
theorem w_339 : Cond.instanceMethod yX2_build ∈ TBL := mTi 339 (by decide +kernel) rfl
theorem w_340 : Cond.selects RX2 yX2_build yX2_build ∈ TBL := mTi 340 (by decide +kernel) rfl
theorem w_341 : Cond.code yX2_build cX2_build 2 (some .int) ∈ TBL := mTi 341 (by decide +kernel) rfl
theorem w_346 : Cond.methodLink RX9 81 yX2_has ∈ TBL := mTi 346 (by decide +kernel) rfl
theorem w_347 : Cond.instanceMethod yX2_has ∈ TBL := mTi 347 (by decide +kernel) rfl
theorem w_348 : Cond.selects RX2 yX2_has yX2_has ∈ TBL := mTi 348 (by decide +kernel) rfl
theorem w_349 : Cond.code yX2_has cX2_has 2 (some .boolean) ∈ TBL := mTi 349 (by decide +kernel) rfl
theorem w_350 : Cond.methodLinkNest RX2 22 yX9_isWithin "BridgeHouse" ∈ NWL := mNi 350 (by decide +kernel) rfl
theorem w_351 : Cond.methodLink RX9 89 yX0_isFallen ∈ TBL := mTi 351 (by decide +kernel) rfl
theorem w_352 : Cond.instanceMethod yX0_isFallen ∈ TBL := mTi 352 (by decide +kernel) rfl
theorem w_353 : Cond.selects RX0 yX0_isFallen yX0_isFallen ∈ TBL := mTi 353 (by decide +kernel) rfl
theorem w_354 : Cond.code yX0_isFallen cX0_isFallen 1 (some .boolean) ∈ TBL := mTi 354 (by decide +kernel) rfl
theorem w_355 : Cond.constant RX9 95 (-1000000002) ∈ TBL := mTi 355 (by decide +kernel) rfl
theorem w_360 : Cond.methodLink RX9 111 yX7_inYear ∈ TBL := mTi 360 (by decide +kernel) rfl
theorem w_361 : Cond.instanceMethod yX7_inYear ∈ TBL := mTi 361 (by decide +kernel) rfl
theorem w_362 : Cond.selects RX7 yX7_inYear yX7_inYear ∈ TBL := mTi 362 (by decide +kernel) rfl
theorem w_363 : Cond.code yX7_inYear cX7_inYear 2 (some .int) ∈ TBL := mTi 363 (by decide +kernel) rfl
theorem w_364 : Cond.methodLinkNest RX7 26 yX9_isWithin "BridgeHouse" ∈ NWL := mNi 364 (by decide +kernel) rfl
theorem w_365 : Cond.methodLink RX9 114 yX2_blocked ∈ TBL := mTi 365 (by decide +kernel) rfl
theorem w_366 : Cond.instanceMethod yX2_blocked ∈ TBL := mTi 366 (by decide +kernel) rfl
theorem w_367 : Cond.selects RX2 yX2_blocked yX2_blocked ∈ TBL := mTi 367 (by decide +kernel) rfl
theorem w_368 : Cond.code yX2_blocked cX2_blocked 3 (some .int) ∈ TBL := mTi 368 (by decide +kernel) rfl
theorem w_369 : Cond.methodLink RX2 42 yX2_fallen ∈ TBL := mTi 369 (by decide +kernel) rfl
theorem w_370 : Cond.instanceMethod yX2_fallen ∈ TBL := mTi 370 (by decide +kernel) rfl
theorem w_371 : Cond.selects RX2 yX2_fallen yX2_fallen ∈ TBL := mTi 371 (by decide +kernel) rfl
theorem w_372 : Cond.code yX2_fallen cX2_fallen 3 (some .int) ∈ TBL := mTi 372 (by decide +kernel) rfl
theorem w_373 : Cond.methodLink RX2 32 yX0_isFallen ∈ TBL := mTi 373 (by decide +kernel) rfl
theorem w_374 : Cond.methodLink RX9 118 yX0_loss ∈ TBL := mTi 374 (by decide +kernel) rfl
theorem w_375 : Cond.instanceMethod yX0_loss ∈ TBL := mTi 375 (by decide +kernel) rfl
theorem w_376 : Cond.selects RX0 yX0_loss yX0_loss ∈ TBL := mTi 376 (by decide +kernel) rfl
theorem w_377 : Cond.code yX0_loss cX0_loss 3 (some .int) ∈ TBL := mTi 377 (by decide +kernel) rfl
theorem w_378 : Cond.methodLink RX0 18 yX0_isFallen ∈ TBL := mTi 378 (by decide +kernel) rfl
theorem w_379 : Cond.methodLink RX0 22 yX0_wear ∈ TBL := mTi 379 (by decide +kernel) rfl
theorem w_381 : Cond.instanceMethod yX0_wear ∈ TBL := mTi 381 (by decide +kernel) rfl
theorem w_382 : Cond.code yX0_wear cX0_wear 2 (some .int) ∈ TBL := mTi 382 (by decide +kernel) rfl
theorem w_383 : Cond.methodLink RX0 26 yX0_scour ∈ TBL := mTi 383 (by decide +kernel) rfl
theorem w_385 : Cond.instanceMethod yX0_scour ∈ TBL := mTi 385 (by decide +kernel) rfl
theorem w_386 : Cond.code yX0_scour cX0_scour 4 (some .int) ∈ TBL := mTi 386 (by decide +kernel) rfl
theorem w_387 : Cond.methodLink RX9 122 yX9_yearOfFall ∈ TBL := mTi 387 (by decide +kernel) rfl
theorem w_389 : Cond.instanceMethod yX9_yearOfFall ∈ TBL := mTi 389 (by decide +kernel) rfl
theorem w_390 : Cond.code yX9_yearOfFall cX9_yearOfFall 4 (some .int) ∈ TBL := mTi 390 (by decide +kernel) rfl
theorem w_391 : Cond.constant RX9 263 (-1000000005) ∈ TBL := mTi 391 (by decide +kernel) rfl
theorem w_392 : Cond.methodLink RX9 281 yX2_becomeLike ∈ TBL := mTi 392 (by decide +kernel) rfl
theorem w_393 : Cond.instanceMethod yX2_becomeLike ∈ TBL := mTi 393 (by decide +kernel) rfl
theorem w_394 : Cond.selects RX2 yX2_becomeLike yX2_becomeLike ∈ TBL := mTi 394 (by decide +kernel) rfl
theorem w_395 : Cond.code yX2_becomeLike cX2_becomeLike 3 none ∈ TBL := mTi 395 (by decide +kernel) rfl
theorem w_396 : Cond.methodLink RX2 57 yX0_becomeLike ∈ TBL := mTi 396 (by decide +kernel) rfl
theorem w_397 : Cond.instanceMethod yX0_becomeLike ∈ TBL := mTi 397 (by decide +kernel) rfl
theorem w_398 : Cond.selects RX0 yX0_becomeLike yX0_becomeLike ∈ TBL := mTi 398 (by decide +kernel) rfl
theorem w_399 : Cond.code yX0_becomeLike cX0_becomeLike 2 none ∈ TBL := mTi 399 (by decide +kernel) rfl
theorem w_400 : Cond.methodLink RX9 236 Lib.Math.min.name ∈ TBL := mTi 400 (by decide +kernel) rfl
theorem w_401 : Cond.static Lib.Math.min.name ∈ TBL := mTi 401 (by decide +kernel) rfl
theorem w_402 : Cond.code Lib.Math.min.name Lib.Math.min.code 2 (some .int) ∈ TBL := mTi 402 (by decide +kernel) rfl
theorem w_403 : Cond.methodLink RX9 256 yX2_sufferYear ∈ TBL := mTi 403 (by decide +kernel) rfl
theorem w_404 : Cond.instanceMethod yX2_sufferYear ∈ TBL := mTi 404 (by decide +kernel) rfl
theorem w_405 : Cond.selects RX2 yX2_sufferYear yX2_sufferYear ∈ TBL := mTi 405 (by decide +kernel) rfl
theorem w_406 : Cond.code yX2_sufferYear cX2_sufferYear 4 none ∈ TBL := mTi 406 (by decide +kernel) rfl
theorem w_407 : Cond.methodLink RX2 46 yX2_blocked ∈ TBL := mTi 407 (by decide +kernel) rfl
theorem w_408 : Cond.methodLink RX2 49 yX0_loss ∈ TBL := mTi 408 (by decide +kernel) rfl
theorem w_409 : Cond.methodLink RX2 53 yX0_weaken ∈ TBL := mTi 409 (by decide +kernel) rfl
theorem w_410 : Cond.instanceMethod yX0_weaken ∈ TBL := mTi 410 (by decide +kernel) rfl
theorem w_411 : Cond.selects RX0 yX0_weaken yX0_weaken ∈ TBL := mTi 411 (by decide +kernel) rfl
theorem w_412 : Cond.code yX0_weaken cX0_weaken 2 none ∈ TBL := mTi 412 (by decide +kernel) rfl
theorem w_413 : Cond.methodLink RX0 33 Lib.Math.max.name ∈ TBL := mTi 413 (by decide +kernel) rfl
theorem w_414 : Cond.static Lib.Math.max.name ∈ TBL := mTi 414 (by decide +kernel) rfl
theorem w_415 : Cond.code Lib.Math.max.name Lib.Math.max.code 2 (some .int) ∈ TBL := mTi 415 (by decide +kernel) rfl
theorem w_420 : Cond.methodLink RX9 128 yX0_isKind ∈ TBL := mTi 420 (by decide +kernel) rfl
theorem w_421 : Cond.instanceMethod yX0_isKind ∈ TBL := mTi 421 (by decide +kernel) rfl
theorem w_422 : Cond.selects RX0 yX0_isKind yX0_isKind ∈ TBL := mTi 422 (by decide +kernel) rfl
theorem w_423 : Cond.code yX0_isKind cX0_isKind 2 (some .boolean) ∈ TBL := mTi 423 (by decide +kernel) rfl
theorem w_428 : Cond.methodLink RX9 131 yX9_isSheet ∈ TBL := mTi 428 (by decide +kernel) rfl
theorem w_429 : Cond.static yX9_isSheet ∈ TBL := mTi 429 (by decide +kernel) rfl
theorem w_430 : Cond.code yX9_isSheet cX9_isSheet 1 (some .boolean) ∈ TBL := mTi 430 (by decide +kernel) rfl
theorem w_431 : Cond.constant RX9 134 (-1000000014) ∈ TBL := mTi 431 (by decide +kernel) rfl
theorem w_432 : Cond.methodLink RX9 135 yX7_begin ∈ TBL := mTi 432 (by decide +kernel) rfl
theorem w_433 : Cond.instanceMethod yX7_begin ∈ TBL := mTi 433 (by decide +kernel) rfl
theorem w_434 : Cond.selects RX7 yX7_begin yX7_begin ∈ TBL := mTi 434 (by decide +kernel) rfl
theorem w_435 : Cond.code yX7_begin cX7_begin 4 none ∈ TBL := mTi 435 (by decide +kernel) rfl
theorem w_440 : Cond.constant RX9 143 (-1000000011) ∈ TBL := mTi 440 (by decide +kernel) rfl
theorem w_441 : Cond.constant RX9 145 (-1000000013) ∈ TBL := mTi 441 (by decide +kernel) rfl
theorem w_442 : Cond.methodLink RX9 146 yX7_mostInPlace ∈ TBL := mTi 442 (by decide +kernel) rfl
theorem w_443 : Cond.instanceMethod yX7_mostInPlace ∈ TBL := mTi 443 (by decide +kernel) rfl
theorem w_444 : Cond.selects RX7 yX7_mostInPlace yX7_mostInPlace ∈ TBL := mTi 444 (by decide +kernel) rfl
theorem w_445 : Cond.code yX7_mostInPlace cX7_mostInPlace 1 (some .int) ∈ TBL := mTi 445 (by decide +kernel) rfl
theorem w_446 : Cond.methodLink RX9 149 yX7_write ∈ TBL := mTi 446 (by decide +kernel) rfl
theorem w_447 : Cond.instanceMethod yX7_write ∈ TBL := mTi 447 (by decide +kernel) rfl
theorem w_448 : Cond.selects RX7 yX7_write yX7_write ∈ TBL := mTi 448 (by decide +kernel) rfl
theorem w_449 : Cond.code yX7_write cX7_write 4 (some .int) ∈ TBL := mTi 449 (by decide +kernel) rfl
theorem w_454 : Cond.methodLink RX9 155 yX7_hasPlaces ∈ TBL := mTi 454 (by decide +kernel) rfl
theorem w_455 : Cond.instanceMethod yX7_hasPlaces ∈ TBL := mTi 455 (by decide +kernel) rfl
theorem w_456 : Cond.selects RX7 yX7_hasPlaces yX7_hasPlaces ∈ TBL := mTi 456 (by decide +kernel) rfl
theorem w_457 : Cond.code yX7_hasPlaces cX7_hasPlaces 3 (some .boolean) ∈ TBL := mTi 457 (by decide +kernel) rfl
theorem w_458 : Cond.methodLink RX9 162 arraycopyName ∈ TBL := mTi 458 (by decide +kernel) rfl
theorem w_459 : Cond.static arraycopyName ∈ TBL := mTi 459 (by decide +kernel) rfl
theorem w_460 : Cond.native arraycopyName ∈ TBL := mTi 460 (by decide +kernel) rfl
theorem w_469 : Cond.methodLink RX9 169 yX8_addNumber ∈ TBL := mTi 469 (by decide +kernel) rfl
theorem w_470 : Cond.instanceMethod yX8_addNumber ∈ TBL := mTi 470 (by decide +kernel) rfl
theorem w_471 : Cond.selects RX8 yX8_addNumber yX8_addNumber ∈ TBL := mTi 471 (by decide +kernel) rfl
theorem w_472 : Cond.code yX8_addNumber cX8_addNumber 3 none ∈ TBL := mTi 472 (by decide +kernel) rfl
theorem w_481 : Cond.methodLink RX9 173 yX4_isGift ∈ TBL := mTi 481 (by decide +kernel) rfl
theorem w_482 : Cond.instanceMethod yX4_isGift ∈ TBL := mTi 482 (by decide +kernel) rfl
theorem w_483 : Cond.selects RX4 yX4_isGift yX4_isGift ∈ TBL := mTi 483 (by decide +kernel) rfl
theorem w_484 : Cond.code yX4_isGift cX4_isGift 3 (some .boolean) ∈ TBL := mTi 484 (by decide +kernel) rfl
theorem w_485 : Cond.methodLink RX4 19 yX4_toNextWord ∈ TBL := mTi 485 (by decide +kernel) rfl
theorem w_487 : Cond.instanceMethod yX4_toNextWord ∈ TBL := mTi 487 (by decide +kernel) rfl
theorem w_488 : Cond.code yX4_toNextWord cX4_toNextWord 1 none ∈ TBL := mTi 488 (by decide +kernel) rfl
theorem w_489 : Cond.methodLink RX4 22 yX4_number ∈ TBL := mTi 489 (by decide +kernel) rfl
theorem w_491 : Cond.instanceMethod yX4_number ∈ TBL := mTi 491 (by decide +kernel) rfl
theorem w_492 : Cond.code yX4_number cX4_number 4 (some .int) ∈ TBL := mTi 492 (by decide +kernel) rfl
theorem w_493 : Cond.methodLinkNest RX4 29 yX9_isWithin "BridgeHouse" ∈ NWL := mNi 493 (by decide +kernel) rfl
theorem w_494 : Cond.methodLink RX4 92 Lib.Math.min.name ∈ TBL := mTi 494 (by decide +kernel) rfl
theorem w_496 : Cond.methodLink RX4 35 yX4_isWord ∈ TBL := mTi 496 (by decide +kernel) rfl
theorem w_498 : Cond.instanceMethod yX4_isWord ∈ TBL := mTi 498 (by decide +kernel) rfl
theorem w_499 : Cond.code yX4_isWord cX4_isWord 3 (some .boolean) ∈ TBL := mTi 499 (by decide +kernel) rfl
theorem w_500 : Cond.methodLink RX4 83 yJ0_length_8abf5 ∈ TBL := mTi 500 (by decide +kernel) rfl
theorem w_501 : Cond.instanceMethod yJ0_length_8abf5 ∈ TBL := mTi 501 (by decide +kernel) rfl
theorem w_502 : Cond.selects RJ0 yJ0_length_8abf5 yJ0_length_8abf5 ∈ TBL := mTi 502 (by decide +kernel) rfl
theorem w_503 : Cond.code yJ0_length_8abf5 cJ0_length_8abf5 1 (some .int) ∈ TBL := mTi 503 (by decide +kernel) rfl
theorem w_504 : Cond.methodLink RJ0 335 yJ0_coder_7d493 ∈ TBL := mTi 504 (by decide +kernel) rfl
theorem w_505 : Cond.instanceMethod yJ0_coder_7d493 ∈ TBL := mTi 505 (by decide +kernel) rfl
theorem w_506 : Cond.selects RJ0 yJ0_coder_7d493 yJ0_coder_7d493 ∈ TBL := mTi 506 (by decide +kernel) rfl
theorem w_507 : Cond.code yJ0_coder_7d493 cJ0_coder_7d493 1 (some .byte) ∈ TBL := mTi 507 (by decide +kernel) rfl
theorem w_508 : Cond.fieldLink RJ0 38 "java/lang/String" "COMPACT_STRINGS" "Z" ∈ TBL := mTi 508 (by decide +kernel) rfl
theorem w_510 : Cond.methodLink RX4 88 yJ0_charAt_5068e ∈ TBL := mTi 510 (by decide +kernel) rfl
theorem w_511 : Cond.instanceMethod yJ0_charAt_5068e ∈ TBL := mTi 511 (by decide +kernel) rfl
theorem w_512 : Cond.selects RJ0 yJ0_charAt_5068e yJ0_charAt_5068e ∈ TBL := mTi 512 (by decide +kernel) rfl
theorem w_513 : Cond.code yJ0_charAt_5068e cJ0_charAt_5068e 2 (some .char) ∈ TBL := mTi 513 (by decide +kernel) rfl
theorem w_514 : Cond.methodLink RJ0 492 yJ0_isLatin1_aae02 ∈ TBL := mTi 514 (by decide +kernel) rfl
theorem w_515 : Cond.instanceMethod yJ0_isLatin1_aae02 ∈ TBL := mTi 515 (by decide +kernel) rfl
theorem w_516 : Cond.selects RJ0 yJ0_isLatin1_aae02 yJ0_isLatin1_aae02 ∈ TBL := mTi 516 (by decide +kernel) rfl
theorem w_517 : Cond.code yJ0_isLatin1_aae02 cJ0_isLatin1_aae02 1 (some .boolean) ∈ TBL := mTi 517 (by decide +kernel) rfl
theorem w_518 : Cond.methodLink RJ0 495 yJ1_charAt_3b067 ∈ TBL := mTi 518 (by decide +kernel) rfl
theorem w_519 : Cond.static yJ1_charAt_3b067 ∈ TBL := mTi 519 (by decide +kernel) rfl
theorem w_520 : Cond.code yJ1_charAt_3b067 cJ1_charAt_3b067 2 (some .char) ∈ TBL := mTi 520 (by decide +kernel) rfl
theorem w_521 : Cond.methodLink RJ1 9 yJ0_checkIndex_df160 ∈ TBL := mTi 521 (by decide +kernel) rfl
theorem w_522 : Cond.static yJ0_checkIndex_df160 ∈ TBL := mTi 522 (by decide +kernel) rfl
theorem w_523 : Cond.code yJ0_checkIndex_df160 cJ0_checkIndex_df160 2 none ∈ TBL := mTi 523 (by decide +kernel) rfl
theorem w_524 : Cond.fieldLink RJ0 1053 "jdk/internal/util/Preconditions" "SIOOBE_FORMATTER" "Ljava/util/function/BiFunction;" ∈ TBL := mTi 524 (by decide +kernel) rfl
theorem w_526 : Cond.methodLink RJ0 1059 yJ3_checkIndex_8e157 ∈ TBL := mTi 526 (by decide +kernel) rfl
theorem w_527 : Cond.static yJ3_checkIndex_8e157 ∈ TBL := mTi 527 (by decide +kernel) rfl
theorem w_528 : Cond.code yJ3_checkIndex_8e157 cJ3_checkIndex_8e157 3 (some .int) ∈ TBL := mTi 528 (by decide +kernel) rfl
theorem w_548 : Cond.methodLink RX4 39 yX4_isEndRead ∈ TBL := mTi 548 (by decide +kernel) rfl
theorem w_550 : Cond.instanceMethod yX4_isEndRead ∈ TBL := mTi 550 (by decide +kernel) rfl
theorem w_551 : Cond.code yX4_isEndRead cX4_isEndRead 3 (some .boolean) ∈ TBL := mTi 551 (by decide +kernel) rfl
theorem w_557 : Cond.methodLink RX4 43 yX4_areYearsRead ∈ TBL := mTi 557 (by decide +kernel) rfl
theorem w_559 : Cond.instanceMethod yX4_areYearsRead ∈ TBL := mTi 559 (by decide +kernel) rfl
theorem w_560 : Cond.code yX4_areYearsRead cX4_areYearsRead 2 (some .boolean) ∈ TBL := mTi 560 (by decide +kernel) rfl
theorem w_564 : Cond.methodLink RX9 180 yX3_make ∈ TBL := mTi 564 (by decide +kernel) rfl
theorem w_565 : Cond.instanceMethod yX3_make ∈ TBL := mTi 565 (by decide +kernel) rfl
theorem w_566 : Cond.selects RX3 yX3_make yX3_make ∈ TBL := mTi 566 (by decide +kernel) rfl
theorem w_567 : Cond.code yX3_make cX3_make 3 (some .int) ∈ TBL := mTi 567 (by decide +kernel) rfl
theorem w_568 : Cond.methodLink RX9 191 yX9_bringGift ∈ TBL := mTi 568 (by decide +kernel) rfl
theorem w_570 : Cond.instanceMethod yX9_bringGift ∈ TBL := mTi 570 (by decide +kernel) rfl
theorem w_571 : Cond.code yX9_bringGift cX9_bringGift 2 none ∈ TBL := mTi 571 (by decide +kernel) rfl
theorem w_572 : Cond.methodLink RX9 288 yX5_receive ∈ TBL := mTi 572 (by decide +kernel) rfl
theorem w_573 : Cond.instanceMethod yX5_receive ∈ TBL := mTi 573 (by decide +kernel) rfl
theorem w_574 : Cond.selects RX5 yX5_receive yX5_receive ∈ TBL := mTi 574 (by decide +kernel) rfl
theorem w_575 : Cond.code yX5_receive cX5_receive 2 none ∈ TBL := mTi 575 (by decide +kernel) rfl
theorem w_576 : Cond.methodLink RX9 291 yX6_add ∈ TBL := mTi 576 (by decide +kernel) rfl
theorem w_577 : Cond.instanceMethod yX6_add ∈ TBL := mTi 577 (by decide +kernel) rfl
theorem w_578 : Cond.selects RX6 yX6_add yX6_add ∈ TBL := mTi 578 (by decide +kernel) rfl
theorem w_579 : Cond.code yX6_add cX6_add 4 none ∈ TBL := mTi 579 (by decide +kernel) rfl
theorem w_584 : Cond.methodLink RX9 195 yX3_has ∈ TBL := mTi 584 (by decide +kernel) rfl
theorem w_585 : Cond.instanceMethod yX3_has ∈ TBL := mTi 585 (by decide +kernel) rfl
theorem w_586 : Cond.selects RX3 yX3_has yX3_has ∈ TBL := mTi 586 (by decide +kernel) rfl
theorem w_587 : Cond.code yX3_has cX3_has 2 (some .boolean) ∈ TBL := mTi 587 (by decide +kernel) rfl
theorem w_588 : Cond.methodLinkNest RX3 28 yX9_isWithin "BridgeHouse" ∈ NWL := mNi 588 (by decide +kernel) rfl
theorem w_589 : Cond.methodLink RX9 211 yX5_isOpen ∈ TBL := mTi 589 (by decide +kernel) rfl
theorem w_590 : Cond.instanceMethod yX5_isOpen ∈ TBL := mTi 590 (by decide +kernel) rfl
theorem w_591 : Cond.selects RX5 yX5_isOpen yX5_isOpen ∈ TBL := mTi 591 (by decide +kernel) rfl
theorem w_592 : Cond.code yX5_isOpen cX5_isOpen 2 (some .boolean) ∈ TBL := mTi 592 (by decide +kernel) rfl
theorem w_597 : Cond.methodLink RX9 220 yX9_isEnd ∈ TBL := mTi 597 (by decide +kernel) rfl
theorem w_599 : Cond.instanceMethod yX9_isEnd ∈ TBL := mTi 599 (by decide +kernel) rfl
theorem w_600 : Cond.code yX9_isEnd cX9_isEnd 2 (some .boolean) ∈ TBL := mTi 600 (by decide +kernel) rfl
theorem w_601 : Cond.methodLink RX9 223 yX3_coinsFor ∈ TBL := mTi 601 (by decide +kernel) rfl
theorem w_602 : Cond.instanceMethod yX3_coinsFor ∈ TBL := mTi 602 (by decide +kernel) rfl
theorem w_603 : Cond.selects RX3 yX3_coinsFor yX3_coinsFor ∈ TBL := mTi 603 (by decide +kernel) rfl
theorem w_604 : Cond.code yX3_coinsFor cX3_coinsFor 5 (some .int) ∈ TBL := mTi 604 (by decide +kernel) rfl
theorem w_605 : Cond.methodLink RX3 51 yX5_canPay ∈ TBL := mTi 605 (by decide +kernel) rfl
theorem w_606 : Cond.instanceMethod yX5_canPay ∈ TBL := mTi 606 (by decide +kernel) rfl
theorem w_607 : Cond.selects RX5 yX5_canPay yX5_canPay ∈ TBL := mTi 607 (by decide +kernel) rfl
theorem w_608 : Cond.code yX5_canPay cX5_canPay 3 (some .boolean) ∈ TBL := mTi 608 (by decide +kernel) rfl
theorem w_609 : Cond.methodLink RX5 25 yX5_isOpen ∈ TBL := mTi 609 (by decide +kernel) rfl
theorem w_610 : Cond.methodLink RX5 32 yX5_serves ∈ TBL := mTi 610 (by decide +kernel) rfl
theorem w_612 : Cond.instanceMethod yX5_serves ∈ TBL := mTi 612 (by decide +kernel) rfl
theorem w_613 : Cond.code yX5_serves cX5_serves 2 (some .boolean) ∈ TBL := mTi 613 (by decide +kernel) rfl
theorem w_618 : Cond.methodLink RX9 226 yX9_mostOfRule ∈ TBL := mTi 618 (by decide +kernel) rfl
theorem w_619 : Cond.static yX9_mostOfRule ∈ TBL := mTi 619 (by decide +kernel) rfl
theorem w_620 : Cond.code yX9_mostOfRule cX9_mostOfRule 1 (some .int) ∈ TBL := mTi 620 (by decide +kernel) rfl
theorem w_625 : Cond.constant RX9 229 (100000) ∈ TBL := mTi 625 (by decide +kernel) rfl
theorem w_626 : Cond.methodLink RX9 230 yX9_takeCoins ∈ TBL := mTi 626 (by decide +kernel) rfl
theorem w_628 : Cond.instanceMethod yX9_takeCoins ∈ TBL := mTi 628 (by decide +kernel) rfl
theorem w_629 : Cond.code yX9_takeCoins cX9_takeCoins 7 (some .int) ∈ TBL := mTi 629 (by decide +kernel) rfl
theorem w_630 : Cond.methodLink RX9 295 yX3_nextToPay ∈ TBL := mTi 630 (by decide +kernel) rfl
theorem w_631 : Cond.instanceMethod yX3_nextToPay ∈ TBL := mTi 631 (by decide +kernel) rfl
theorem w_632 : Cond.selects RX3 yX3_nextToPay yX3_nextToPay ∈ TBL := mTi 632 (by decide +kernel) rfl
theorem w_633 : Cond.code yX3_nextToPay cX3_nextToPay 5 (some .int) ∈ TBL := mTi 633 (by decide +kernel) rfl
theorem w_634 : Cond.methodLink RX3 55 yX5_paysAheadOf ∈ TBL := mTi 634 (by decide +kernel) rfl
theorem w_635 : Cond.instanceMethod yX5_paysAheadOf ∈ TBL := mTi 635 (by decide +kernel) rfl
theorem w_636 : Cond.selects RX5 yX5_paysAheadOf yX5_paysAheadOf ∈ TBL := mTi 636 (by decide +kernel) rfl
theorem w_637 : Cond.code yX5_paysAheadOf cX5_paysAheadOf 2 (some .boolean) ∈ TBL := mTi 637 (by decide +kernel) rfl
theorem w_638 : Cond.methodLink RX5 38 yX5_breadth ∈ TBL := mTi 638 (by decide +kernel) rfl
theorem w_640 : Cond.instanceMethod yX5_breadth ∈ TBL := mTi 640 (by decide +kernel) rfl
theorem w_641 : Cond.code yX5_breadth cX5_breadth 1 (some .int) ∈ TBL := mTi 641 (by decide +kernel) rfl
theorem w_642 : Cond.methodLink RX9 298 yX5_pay ∈ TBL := mTi 642 (by decide +kernel) rfl
theorem w_643 : Cond.instanceMethod yX5_pay ∈ TBL := mTi 643 (by decide +kernel) rfl
theorem w_644 : Cond.selects RX5 yX5_pay yX5_pay ∈ TBL := mTi 644 (by decide +kernel) rfl
theorem w_645 : Cond.code yX5_pay cX5_pay 3 none ∈ TBL := mTi 645 (by decide +kernel) rfl
theorem w_646 : Cond.methodLink RX9 301 yX1_write ∈ TBL := mTi 646 (by decide +kernel) rfl
theorem w_647 : Cond.instanceMethod yX1_write ∈ TBL := mTi 647 (by decide +kernel) rfl
theorem w_648 : Cond.selects RX1 yX1_write yX1_write ∈ TBL := mTi 648 (by decide +kernel) rfl
theorem w_649 : Cond.code yX1_write cX1_write 6 none ∈ TBL := mTi 649 (by decide +kernel) rfl
theorem w_654 : Cond.methodLink RX9 233 yX0_coinsUpTo ∈ TBL := mTi 654 (by decide +kernel) rfl
theorem w_655 : Cond.instanceMethod yX0_coinsUpTo ∈ TBL := mTi 655 (by decide +kernel) rfl
theorem w_656 : Cond.selects RX0 yX0_coinsUpTo yX0_coinsUpTo ∈ TBL := mTi 656 (by decide +kernel) rfl
theorem w_657 : Cond.code yX0_coinsUpTo cX0_coinsUpTo 3 (some .int) ∈ TBL := mTi 657 (by decide +kernel) rfl
theorem w_658 : Cond.methodLink RX0 41 yX0_gain ∈ TBL := mTi 658 (by decide +kernel) rfl
theorem w_660 : Cond.instanceMethod yX0_gain ∈ TBL := mTi 660 (by decide +kernel) rfl
theorem w_661 : Cond.code yX0_gain cX0_gain 1 (some .int) ∈ TBL := mTi 661 (by decide +kernel) rfl
theorem w_662 : Cond.methodLink RX9 241 yX9_workFor ∈ TBL := mTi 662 (by decide +kernel) rfl
theorem w_664 : Cond.instanceMethod yX9_workFor ∈ TBL := mTi 664 (by decide +kernel) rfl
theorem w_665 : Cond.code yX9_workFor cX9_workFor 4 (some .int) ∈ TBL := mTi 665 (by decide +kernel) rfl
theorem w_666 : Cond.methodLink RX9 304 yX0_mend ∈ TBL := mTi 666 (by decide +kernel) rfl
theorem w_667 : Cond.instanceMethod yX0_mend ∈ TBL := mTi 667 (by decide +kernel) rfl
theorem w_668 : Cond.selects RX0 yX0_mend yX0_mend ∈ TBL := mTi 668 (by decide +kernel) rfl
theorem w_669 : Cond.code yX0_mend cX0_mend 2 none ∈ TBL := mTi 669 (by decide +kernel) rfl
theorem w_670 : Cond.methodLink RX0 44 Lib.Math.min.name ∈ TBL := mTi 670 (by decide +kernel) rfl
theorem w_675 : Cond.methodLink RX9 244 yX9_lapsePurses ∈ TBL := mTi 675 (by decide +kernel) rfl
theorem w_677 : Cond.instanceMethod yX9_lapsePurses ∈ TBL := mTi 677 (by decide +kernel) rfl
theorem w_678 : Cond.code yX9_lapsePurses cX9_lapsePurses 2 none ∈ TBL := mTi 678 (by decide +kernel) rfl
theorem w_679 : Cond.methodLink RX9 307 yX5_lapse ∈ TBL := mTi 679 (by decide +kernel) rfl
theorem w_680 : Cond.instanceMethod yX5_lapse ∈ TBL := mTi 680 (by decide +kernel) rfl
theorem w_681 : Cond.selects RX5 yX5_lapse yX5_lapse ∈ TBL := mTi 681 (by decide +kernel) rfl
theorem w_682 : Cond.code yX5_lapse cX5_lapse 2 (some .int) ∈ TBL := mTi 682 (by decide +kernel) rfl
theorem w_683 : Cond.methodLink RX9 247 yX9_bringGiftsOfYear ∈ TBL := mTi 683 (by decide +kernel) rfl
theorem w_685 : Cond.instanceMethod yX9_bringGiftsOfYear ∈ TBL := mTi 685 (by decide +kernel) rfl
theorem w_686 : Cond.code yX9_bringGiftsOfYear cX9_bringGiftsOfYear 2 none ∈ TBL := mTi 686 (by decide +kernel) rfl
theorem w_687 : Cond.methodLink RX9 310 yX5_isDue ∈ TBL := mTi 687 (by decide +kernel) rfl
theorem w_688 : Cond.instanceMethod yX5_isDue ∈ TBL := mTi 688 (by decide +kernel) rfl
theorem w_689 : Cond.selects RX5 yX5_isDue yX5_isDue ∈ TBL := mTi 689 (by decide +kernel) rfl
theorem w_690 : Cond.code yX5_isDue cX5_isDue 2 (some .boolean) ∈ TBL := mTi 690 (by decide +kernel) rfl
theorem w_691 : Cond.methodLink RX9 250 yX9_bringTolls ∈ TBL := mTi 691 (by decide +kernel) rfl
theorem w_693 : Cond.instanceMethod yX9_bringTolls ∈ TBL := mTi 693 (by decide +kernel) rfl
theorem w_694 : Cond.code yX9_bringTolls cX9_bringTolls 5 none ∈ TBL := mTi 694 (by decide +kernel) rfl
theorem w_695 : Cond.methodLink RX9 273 yX2_fallen ∈ TBL := mTi 695 (by decide +kernel) rfl
theorem w_696 : Cond.methodLink RX9 313 yX2_hasDraw ∈ TBL := mTi 696 (by decide +kernel) rfl
theorem w_697 : Cond.instanceMethod yX2_hasDraw ∈ TBL := mTi 697 (by decide +kernel) rfl
theorem w_698 : Cond.selects RX2 yX2_hasDraw yX2_hasDraw ∈ TBL := mTi 698 (by decide +kernel) rfl
theorem w_699 : Cond.code yX2_hasDraw cX2_hasDraw 2 (some .boolean) ∈ TBL := mTi 699 (by decide +kernel) rfl
theorem w_700 : Cond.methodLink RX9 253 yX9_bringRents ∈ TBL := mTi 700 (by decide +kernel) rfl
theorem w_702 : Cond.instanceMethod yX9_bringRents ∈ TBL := mTi 702 (by decide +kernel) rfl
theorem w_703 : Cond.code yX9_bringRents cX9_bringRents 2 none ∈ TBL := mTi 703 (by decide +kernel) rfl
theorem w_704 : Cond.methodLink RX9 276 yX2_houses ∈ TBL := mTi 704 (by decide +kernel) rfl
theorem w_705 : Cond.instanceMethod yX2_houses ∈ TBL := mTi 705 (by decide +kernel) rfl
theorem w_706 : Cond.selects RX2 yX2_houses yX2_houses ∈ TBL := mTi 706 (by decide +kernel) rfl
theorem w_707 : Cond.code yX2_houses cX2_houses 3 (some .int) ∈ TBL := mTi 707 (by decide +kernel) rfl
theorem w_708 : Cond.methodLink RX9 259 yX9_keepUp ∈ TBL := mTi 708 (by decide +kernel) rfl
theorem w_710 : Cond.instanceMethod yX9_keepUp ∈ TBL := mTi 710 (by decide +kernel) rfl
theorem w_711 : Cond.code yX9_keepUp cX9_keepUp 3 none ∈ TBL := mTi 711 (by decide +kernel) rfl
theorem w_712 : Cond.methodLink RX9 316 yX2_forgetChosen ∈ TBL := mTi 712 (by decide +kernel) rfl
theorem w_713 : Cond.instanceMethod yX2_forgetChosen ∈ TBL := mTi 713 (by decide +kernel) rfl
theorem w_714 : Cond.selects RX2 yX2_forgetChosen yX2_forgetChosen ∈ TBL := mTi 714 (by decide +kernel) rfl
theorem w_715 : Cond.code yX2_forgetChosen cX2_forgetChosen 2 none ∈ TBL := mTi 715 (by decide +kernel) rfl
theorem w_716 : Cond.methodLink RX9 319 yX2_weakestBelow ∈ TBL := mTi 716 (by decide +kernel) rfl
theorem w_717 : Cond.instanceMethod yX2_weakestBelow ∈ TBL := mTi 717 (by decide +kernel) rfl
theorem w_718 : Cond.selects RX2 yX2_weakestBelow yX2_weakestBelow ∈ TBL := mTi 718 (by decide +kernel) rfl
theorem w_719 : Cond.code yX2_weakestBelow cX2_weakestBelow 6 (some .int) ∈ TBL := mTi 719 (by decide +kernel) rfl
theorem w_724 : Cond.methodLink RX9 264 yX1_read ∈ TBL := mTi 724 (by decide +kernel) rfl
theorem w_725 : Cond.instanceMethod yX1_read ∈ TBL := mTi 725 (by decide +kernel) rfl
theorem w_726 : Cond.selects RX1 yX1_read yX1_read ∈ TBL := mTi 726 (by decide +kernel) rfl
theorem w_727 : Cond.code yX1_read cX1_read 3 (some .int) ∈ TBL := mTi 727 (by decide +kernel) rfl
theorem w_732 : Cond.methodLink RX9 267 yX6_read ∈ TBL := mTi 732 (by decide +kernel) rfl
theorem w_733 : Cond.instanceMethod yX6_read ∈ TBL := mTi 733 (by decide +kernel) rfl
theorem w_734 : Cond.selects RX6 yX6_read yX6_read ∈ TBL := mTi 734 (by decide +kernel) rfl
theorem w_735 : Cond.code yX6_read cX6_read 3 (some .int) ∈ TBL := mTi 735 (by decide +kernel) rfl
theorem w_740 : Cond.methodLink RX9 268 yX3_allCoins ∈ TBL := mTi 740 (by decide +kernel) rfl
theorem w_741 : Cond.instanceMethod yX3_allCoins ∈ TBL := mTi 741 (by decide +kernel) rfl
theorem w_742 : Cond.selects RX3 yX3_allCoins yX3_allCoins ∈ TBL := mTi 742 (by decide +kernel) rfl
theorem w_743 : Cond.code yX3_allCoins cX3_allCoins 3 (some .int) ∈ TBL := mTi 743 (by decide +kernel) rfl
theorem w_752 : Cond.methodLink RX9 278 yX9_sheetsThere ∈ TBL := mTi 752 (by decide +kernel) rfl
theorem w_754 : Cond.instanceMethod yX9_sheetsThere ∈ TBL := mTi 754 (by decide +kernel) rfl
theorem w_755 : Cond.code yX9_sheetsThere cX9_sheetsThere 3 (some .int) ∈ TBL := mTi 755 (by decide +kernel) rfl
theorem w_762 : Cond.fieldLink RX10 103 RX10 "year" "I" ∈ TBL := mTi 762 (by decide +kernel) rfl
theorem w_763 : Cond.fieldLink RX10 96 RX10 "arches" "I" ∈ TBL := mTi 763 (by decide +kernel) rfl
theorem w_764 : Cond.fieldLink RX10 7 RX10 "kinds" "[I" ∈ TBL := mTi 764 (by decide +kernel) rfl
theorem w_765 : Cond.fieldLink RX10 13 RX10 "strength" "[I" ∈ TBL := mTi 765 (by decide +kernel) rfl
theorem w_766 : Cond.fieldLink RX10 16 RX10 "houses" "[I" ∈ TBL := mTi 766 (by decide +kernel) rfl
theorem w_767 : Cond.fieldLink RX10 19 RX10 "wheel" "[I" ∈ TBL := mTi 767 (by decide +kernel) rfl
theorem w_768 : Cond.fieldLink RX10 22 RX10 "rules" "[I" ∈ TBL := mTi 768 (by decide +kernel) rfl
theorem w_769 : Cond.fieldLink RX10 25 RX10 "isThere" "[Z" ∈ TBL := mTi 769 (by decide +kernel) rfl
theorem w_770 : Cond.fieldLink RX10 29 RX10 "width" "[I" ∈ TBL := mTi 770 (by decide +kernel) rfl
theorem w_771 : Cond.fieldLink RX10 32 RX10 "places" "[I" ∈ TBL := mTi 771 (by decide +kernel) rfl
theorem w_772 : Cond.fieldLink RX10 35 RX10 "numbers" "[I" ∈ TBL := mTi 772 (by decide +kernel) rfl
theorem w_773 : Cond.fieldLink RX10 38 RX10 "tape" "[I" ∈ TBL := mTi 773 (by decide +kernel) rfl
theorem w_774 : Cond.fieldLink RX10 141 RX10 "taped" "I" ∈ TBL := mTi 774 (by decide +kernel) rfl
theorem w_775 : Cond.fieldLink RX10 92 RX10 "purses" "I" ∈ TBL := mTi 775 (by decide +kernel) rfl
theorem w_776 : Cond.fieldLink RX10 41 RX10 "pEnd" "[I" ∈ TBL := mTi 776 (by decide +kernel) rfl
theorem w_777 : Cond.fieldLink RX10 44 RX10 "pFrom" "[I" ∈ TBL := mTi 777 (by decide +kernel) rfl
theorem w_778 : Cond.fieldLink RX10 47 RX10 "pTill" "[I" ∈ TBL := mTi 778 (by decide +kernel) rfl
theorem w_779 : Cond.fieldLink RX10 50 RX10 "pYearly" "[I" ∈ TBL := mTi 779 (by decide +kernel) rfl
theorem w_780 : Cond.fieldLink RX10 53 RX10 "pGives" "[I" ∈ TBL := mTi 780 (by decide +kernel) rfl
theorem w_781 : Cond.fieldLink RX10 56 RX10 "coins" "[I" ∈ TBL := mTi 781 (by decide +kernel) rfl
theorem w_782 : Cond.fieldLink RX10 59 RX10 "cameAll" "[I" ∈ TBL := mTi 782 (by decide +kernel) rfl
theorem w_783 : Cond.fieldLink RX10 62 RX10 "lapsedAll" "[I" ∈ TBL := mTi 783 (by decide +kernel) rfl
theorem w_784 : Cond.fieldLink RX10 65 RX10 "spentOf" "[I" ∈ TBL := mTi 784 (by decide +kernel) rfl
theorem w_785 : Cond.fieldLink RX10 68 RX10 "book" "[I" ∈ TBL := mTi 785 (by decide +kernel) rfl
theorem w_786 : Cond.fieldLink RX10 242 RX10 "firstRow" "I" ∈ TBL := mTi 786 (by decide +kernel) rfl
theorem w_787 : Cond.fieldLink RX10 239 RX10 "rowMany" "I" ∈ TBL := mTi 787 (by decide +kernel) rfl
theorem w_788 : Cond.fieldLink RX10 71 RX10 "rolls" "[I" ∈ TBL := mTi 788 (by decide +kernel) rfl
theorem w_789 : Cond.fieldLink RX10 74 RX10 "s" "[I" ∈ TBL := mTi 789 (by decide +kernel) rfl
theorem w_790 : Cond.fieldLink RX10 77 RX10 "hs" "[I" ∈ TBL := mTi 790 (by decide +kernel) rfl
theorem w_791 : Cond.fieldLink RX10 80 RX10 "ws" "[I" ∈ TBL := mTi 791 (by decide +kernel) rfl
theorem w_792 : Cond.fieldLink RX10 83 RX10 "losses" "[I" ∈ TBL := mTi 792 (by decide +kernel) rfl
theorem w_793 : Cond.fieldLink RX10 86 RX10 "carried" "[I" ∈ TBL := mTi 793 (by decide +kernel) rfl
theorem w_794 : Cond.fieldLink RX10 147 RX10 "read" "I" ∈ TBL := mTi 794 (by decide +kernel) rfl
theorem w_795 : Cond.fieldLink RX10 150 RX10 "from1" "I" ∈ TBL := mTi 795 (by decide +kernel) rfl
theorem w_796 : Cond.fieldLink RX10 153 RX10 "long1" "I" ∈ TBL := mTi 796 (by decide +kernel) rfl
theorem w_797 : Cond.fieldLink RX10 180 RX10 "gCoins" "I" ∈ TBL := mTi 797 (by decide +kernel) rfl
theorem w_798 : Cond.fieldLink RX10 191 RX10 "gEnd" "I" ∈ TBL := mTi 798 (by decide +kernel) rfl
theorem w_799 : Cond.fieldLink RX10 194 RX10 "gFrom" "I" ∈ TBL := mTi 799 (by decide +kernel) rfl
theorem w_800 : Cond.fieldLink RX10 197 RX10 "gTill" "I" ∈ TBL := mTi 800 (by decide +kernel) rfl
theorem w_801 : Cond.fieldLink RX10 200 RX10 "gYearly" "I" ∈ TBL := mTi 801 (by decide +kernel) rfl
theorem w_802 : Cond.fieldLink RX10 89 RX10 "chosen" "[Z" ∈ TBL := mTi 802 (by decide +kernel) rfl
theorem w_891 : Cond.methodLink RX10 99 yX10_isIn ∈ TBL := mTi 891 (by decide +kernel) rfl
theorem w_892 : Cond.static yX10_isIn ∈ TBL := mTi 892 (by decide +kernel) rfl
theorem w_893 : Cond.code yX10_isIn cX10_isIn 3 (some .boolean) ∈ TBL := mTi 893 (by decide +kernel) rfl
theorem w_894 : Cond.constant RX10 106 (-1000000001) ∈ TBL := mTi 894 (by decide +kernel) rfl
theorem w_895 : Cond.constant RX10 107 (-1000000003) ∈ TBL := mTi 895 (by decide +kernel) rfl
theorem w_900 : Cond.methodLink RX10 108 yX10_isArch ∈ TBL := mTi 900 (by decide +kernel) rfl
theorem w_902 : Cond.instanceMethod yX10_isArch ∈ TBL := mTi 902 (by decide +kernel) rfl
theorem w_903 : Cond.code yX10_isArch cX10_isArch 2 (some .boolean) ∈ TBL := mTi 903 (by decide +kernel) rfl
theorem w_904 : Cond.constant RX10 112 (-1000000002) ∈ TBL := mTi 904 (by decide +kernel) rfl
theorem w_909 : Cond.methodLink RX10 117 yX10_asItIs ∈ TBL := mTi 909 (by decide +kernel) rfl
theorem w_911 : Cond.instanceMethod yX10_asItIs ∈ TBL := mTi 911 (by decide +kernel) rfl
theorem w_912 : Cond.code yX10_asItIs cX10_asItIs 2 none ∈ TBL := mTi 912 (by decide +kernel) rfl
theorem w_913 : Cond.methodLink RX10 121 yX10_findLosses ∈ TBL := mTi 913 (by decide +kernel) rfl
theorem w_915 : Cond.instanceMethod yX10_findLosses ∈ TBL := mTi 915 (by decide +kernel) rfl
theorem w_916 : Cond.code yX10_findLosses cX10_findLosses 7 none ∈ TBL := mTi 916 (by decide +kernel) rfl
theorem w_917 : Cond.methodLink RX10 113 yX10_numberOf ∈ TBL := mTi 917 (by decide +kernel) rfl
theorem w_919 : Cond.instanceMethod yX10_numberOf ∈ TBL := mTi 919 (by decide +kernel) rfl
theorem w_920 : Cond.code yX10_numberOf cX10_numberOf 3 (some .int) ∈ TBL := mTi 920 (by decide +kernel) rfl
theorem w_921 : Cond.methodLink RX10 128 yX10_toldOf ∈ TBL := mTi 921 (by decide +kernel) rfl
theorem w_923 : Cond.instanceMethod yX10_toldOf ∈ TBL := mTi 923 (by decide +kernel) rfl
theorem w_924 : Cond.code yX10_toldOf cX10_toldOf 3 (some .int) ∈ TBL := mTi 924 (by decide +kernel) rfl
theorem w_925 : Cond.constant RX10 120 (-1000000005) ∈ TBL := mTi 925 (by decide +kernel) rfl
theorem w_926 : Cond.methodLink RX10 125 yX10_lose ∈ TBL := mTi 926 (by decide +kernel) rfl
theorem w_928 : Cond.instanceMethod yX10_lose ∈ TBL := mTi 928 (by decide +kernel) rfl
theorem w_929 : Cond.code yX10_lose cX10_lose 2 none ∈ TBL := mTi 929 (by decide +kernel) rfl
theorem w_930 : Cond.methodLink RX10 132 yX10_spentAt ∈ TBL := mTi 930 (by decide +kernel) rfl
theorem w_932 : Cond.instanceMethod yX10_spentAt ∈ TBL := mTi 932 (by decide +kernel) rfl
theorem w_933 : Cond.code yX10_spentAt cX10_spentAt 4 (some .int) ∈ TBL := mTi 933 (by decide +kernel) rfl
theorem w_942 : Cond.methodLink RX10 135 yX10_isSheet ∈ TBL := mTi 942 (by decide +kernel) rfl
theorem w_943 : Cond.static yX10_isSheet ∈ TBL := mTi 943 (by decide +kernel) rfl
theorem w_944 : Cond.code yX10_isSheet cX10_isSheet 1 (some .boolean) ∈ TBL := mTi 944 (by decide +kernel) rfl
theorem w_945 : Cond.constant RX10 138 (-1000000014) ∈ TBL := mTi 945 (by decide +kernel) rfl
theorem w_950 : Cond.constant RX10 139 (-1000000011) ∈ TBL := mTi 950 (by decide +kernel) rfl
theorem w_951 : Cond.constant RX10 140 (-1000000013) ∈ TBL := mTi 951 (by decide +kernel) rfl
theorem w_964 : Cond.methodLink RX10 144 yX10_four ∈ TBL := mTi 964 (by decide +kernel) rfl
theorem w_966 : Cond.instanceMethod yX10_four ∈ TBL := mTi 966 (by decide +kernel) rfl
theorem w_967 : Cond.code yX10_four cX10_four 3 none ∈ TBL := mTi 967 (by decide +kernel) rfl
theorem w_976 : Cond.methodLink RX10 213 yX10_readGift ∈ TBL := mTi 976 (by decide +kernel) rfl
theorem w_978 : Cond.instanceMethod yX10_readGift ∈ TBL := mTi 978 (by decide +kernel) rfl
theorem w_979 : Cond.code yX10_readGift cX10_readGift 2 (some .int) ∈ TBL := mTi 979 (by decide +kernel) rfl
theorem w_980 : Cond.methodLink RX10 173 yX10_next ∈ TBL := mTi 980 (by decide +kernel) rfl
theorem w_982 : Cond.instanceMethod yX10_next ∈ TBL := mTi 982 (by decide +kernel) rfl
theorem w_983 : Cond.code yX10_next cX10_next 1 none ∈ TBL := mTi 983 (by decide +kernel) rfl
theorem w_984 : Cond.methodLink RX10 176 yX10_number ∈ TBL := mTi 984 (by decide +kernel) rfl
theorem w_986 : Cond.instanceMethod yX10_number ∈ TBL := mTi 986 (by decide +kernel) rfl
theorem w_987 : Cond.code yX10_number cX10_number 3 (some .int) ∈ TBL := mTi 987 (by decide +kernel) rfl
theorem w_988 : Cond.constant RX10 158 (100000) ∈ TBL := mTi 988 (by decide +kernel) rfl
theorem w_989 : Cond.methodLink RX10 183 yX10_here ∈ TBL := mTi 989 (by decide +kernel) rfl
theorem w_991 : Cond.instanceMethod yX10_here ∈ TBL := mTi 991 (by decide +kernel) rfl
theorem w_992 : Cond.code yX10_here cX10_here 1 (some .int) ∈ TBL := mTi 992 (by decide +kernel) rfl
theorem w_993 : Cond.constantLong RX10 186 (6713202) ∈ TBL := mTi 993 (by decide +kernel) rfl
theorem w_994 : Cond.methodLink RX10 161 yX10_isWord ∈ TBL := mTi 994 (by decide +kernel) rfl
theorem w_996 : Cond.instanceMethod yX10_isWord ∈ TBL := mTi 996 (by decide +kernel) rfl
theorem w_997 : Cond.code yX10_isWord cX10_isWord 5 (some .boolean) ∈ TBL := mTi 997 (by decide +kernel) rfl
theorem w_998 : Cond.constantLong RX10 156 (255) ∈ TBL := mTi 998 (by decide +kernel) rfl
theorem w_999 : Cond.methodLink RX10 188 yX10_endOf ∈ TBL := mTi 999 (by decide +kernel) rfl
theorem w_1001 : Cond.instanceMethod yX10_endOf ∈ TBL := mTi 1001 (by decide +kernel) rfl
theorem w_1002 : Cond.code yX10_endOf cX10_endOf 1 (some .int) ∈ TBL := mTi 1002 (by decide +kernel) rfl
theorem w_1003 : Cond.constantLong RX10 159 (6384748) ∈ TBL := mTi 1003 (by decide +kernel) rfl
theorem w_1004 : Cond.constantLong RX10 165 (512970877811) ∈ TBL := mTi 1004 (by decide +kernel) rfl
theorem w_1005 : Cond.constantLong RX10 167 (1886351218) ∈ TBL := mTi 1005 (by decide +kernel) rfl
theorem w_1006 : Cond.constantLong RX10 169 (109299962504556) ∈ TBL := mTi 1006 (by decide +kernel) rfl
theorem w_1007 : Cond.constantLong RX10 171 (1634886504) ∈ TBL := mTi 1007 (by decide +kernel) rfl
theorem w_1008 : Cond.constantLong RX10 203 (1718775661) ∈ TBL := mTi 1008 (by decide +kernel) rfl
theorem w_1009 : Cond.constantLong RX10 205 (1953066092) ∈ TBL := mTi 1009 (by decide +kernel) rfl
theorem w_1010 : Cond.constantLong RX10 207 (133476333546617) ∈ TBL := mTi 1010 (by decide +kernel) rfl
theorem w_1011 : Cond.methodLink RX10 216 yX10_comes ∈ TBL := mTi 1011 (by decide +kernel) rfl
theorem w_1013 : Cond.instanceMethod yX10_comes ∈ TBL := mTi 1013 (by decide +kernel) rfl
theorem w_1014 : Cond.code yX10_comes cX10_comes 4 none ∈ TBL := mTi 1014 (by decide +kernel) rfl
theorem w_1015 : Cond.methodLink RX10 209 yX10_told ∈ TBL := mTi 1015 (by decide +kernel) rfl
theorem w_1017 : Cond.instanceMethod yX10_told ∈ TBL := mTi 1017 (by decide +kernel) rfl
theorem w_1018 : Cond.code yX10_told cX10_told 3 none ∈ TBL := mTi 1018 (by decide +kernel) rfl
theorem w_1023 : Cond.methodLink RX10 220 yX10_isPurse ∈ TBL := mTi 1023 (by decide +kernel) rfl
theorem w_1025 : Cond.instanceMethod yX10_isPurse ∈ TBL := mTi 1025 (by decide +kernel) rfl
theorem w_1026 : Cond.code yX10_isPurse cX10_isPurse 2 (some .boolean) ∈ TBL := mTi 1026 (by decide +kernel) rfl
theorem w_1027 : Cond.methodLink RX10 223 yX10_isOpen ∈ TBL := mTi 1027 (by decide +kernel) rfl
theorem w_1029 : Cond.instanceMethod yX10_isOpen ∈ TBL := mTi 1029 (by decide +kernel) rfl
theorem w_1030 : Cond.code yX10_isOpen cX10_isOpen 2 (some .boolean) ∈ TBL := mTi 1030 (by decide +kernel) rfl
theorem w_1035 : Cond.methodLink RX10 230 yX10_isEnd ∈ TBL := mTi 1035 (by decide +kernel) rfl
theorem w_1037 : Cond.instanceMethod yX10_isEnd ∈ TBL := mTi 1037 (by decide +kernel) rfl
theorem w_1038 : Cond.code yX10_isEnd cX10_isEnd 2 (some .boolean) ∈ TBL := mTi 1038 (by decide +kernel) rfl
theorem w_1039 : Cond.methodLink RX10 233 yX10_fundsOf ∈ TBL := mTi 1039 (by decide +kernel) rfl
theorem w_1041 : Cond.instanceMethod yX10_fundsOf ∈ TBL := mTi 1041 (by decide +kernel) rfl
theorem w_1042 : Cond.code yX10_fundsOf cX10_fundsOf 4 (some .int) ∈ TBL := mTi 1042 (by decide +kernel) rfl
theorem w_1043 : Cond.methodLink RX10 226 yX10_serves ∈ TBL := mTi 1043 (by decide +kernel) rfl
theorem w_1045 : Cond.instanceMethod yX10_serves ∈ TBL := mTi 1045 (by decide +kernel) rfl
theorem w_1046 : Cond.code yX10_serves cX10_serves 4 (some .boolean) ∈ TBL := mTi 1046 (by decide +kernel) rfl
theorem w_1055 : Cond.methodLink RX10 251 yX10_taken ∈ TBL := mTi 1055 (by decide +kernel) rfl
theorem w_1057 : Cond.instanceMethod yX10_taken ∈ TBL := mTi 1057 (by decide +kernel) rfl
theorem w_1058 : Cond.code yX10_taken cX10_taken 6 none ∈ TBL := mTi 1058 (by decide +kernel) rfl
theorem w_1059 : Cond.methodLink RX10 245 yX10_isSooner ∈ TBL := mTi 1059 (by decide +kernel) rfl
theorem w_1061 : Cond.instanceMethod yX10_isSooner ∈ TBL := mTi 1061 (by decide +kernel) rfl
theorem w_1062 : Cond.code yX10_isSooner cX10_isSooner 3 (some .boolean) ∈ TBL := mTi 1062 (by decide +kernel) rfl
theorem w_1063 : Cond.methodLink RX10 236 yX10_turnOf ∈ TBL := mTi 1063 (by decide +kernel) rfl
theorem w_1065 : Cond.instanceMethod yX10_turnOf ∈ TBL := mTi 1065 (by decide +kernel) rfl
theorem w_1066 : Cond.code yX10_turnOf cX10_turnOf 2 (some .int) ∈ TBL := mTi 1066 (by decide +kernel) rfl
theorem w_1067 : Cond.methodLink RX10 248 yX10_write ∈ TBL := mTi 1067 (by decide +kernel) rfl
theorem w_1069 : Cond.instanceMethod yX10_write ∈ TBL := mTi 1069 (by decide +kernel) rfl
theorem w_1070 : Cond.code yX10_write cX10_write 5 none ∈ TBL := mTi 1070 (by decide +kernel) rfl
theorem w_1075 : Cond.methodLink RX10 257 yX10_worked ∈ TBL := mTi 1075 (by decide +kernel) rfl
theorem w_1077 : Cond.instanceMethod yX10_worked ∈ TBL := mTi 1077 (by decide +kernel) rfl
theorem w_1078 : Cond.code yX10_worked cX10_worked 6 (some .int) ∈ TBL := mTi 1078 (by decide +kernel) rfl
theorem w_1079 : Cond.methodLink RX10 254 yX10_gain ∈ TBL := mTi 1079 (by decide +kernel) rfl
theorem w_1081 : Cond.instanceMethod yX10_gain ∈ TBL := mTi 1081 (by decide +kernel) rfl
theorem w_1082 : Cond.code yX10_gain cX10_gain 2 (some .int) ∈ TBL := mTi 1082 (by decide +kernel) rfl
theorem w_1087 : Cond.methodLink RX10 265 yX10_goOn ∈ TBL := mTi 1087 (by decide +kernel) rfl
theorem w_1089 : Cond.instanceMethod yX10_goOn ∈ TBL := mTi 1089 (by decide +kernel) rfl
theorem w_1090 : Cond.code yX10_goOn cX10_goOn 6 none ∈ TBL := mTi 1090 (by decide +kernel) rfl
theorem w_1091 : Cond.methodLink RX10 262 yX10_keep ∈ TBL := mTi 1091 (by decide +kernel) rfl
theorem w_1093 : Cond.instanceMethod yX10_keep ∈ TBL := mTi 1093 (by decide +kernel) rfl
theorem w_1094 : Cond.code yX10_keep cX10_keep 5 none ∈ TBL := mTi 1094 (by decide +kernel) rfl
theorem w_1095 : Cond.constant RX10 261 (100000000) ∈ TBL := mTi 1095 (by decide +kernel) rfl
theorem w_1116 : Cond.fieldLink RJ0 9 "java/lang/String" "value" "[B" ∈ TBL := mTi 1116 (by decide +kernel) rfl
theorem w_1117 : Cond.fieldLink RJ0 15 "java/lang/String" "coder" "B" ∈ TBL := mTi 1117 (by decide +kernel) rfl
theorem lkRJ0_1059 : LkS RJ0 1059 yJ3_checkIndex_8e157 qJ3_checkIndex_8e157 3 := ⟨⟨Or.inl w_526, w_66, w_528, by decide +kernel⟩, w_527⟩
theorem lkRJ0_335 : LkV RJ0 335 yJ0_coder_7d493 qJ0_coder_7d493 0 := ⟨⟨Or.inl w_504, w_64, w_507, by decide +kernel⟩, w_505, w_506⟩
theorem lkRJ0_492 : LkV RJ0 492 yJ0_isLatin1_aae02 qJ0_isLatin1_aae02 0 := ⟨⟨Or.inl w_514, w_64, w_517, by decide +kernel⟩, w_515, w_516⟩
theorem lkRJ0_495 : LkS RJ0 495 yJ1_charAt_3b067 qJ1_charAt_3b067 2 := ⟨⟨Or.inl w_518, w_65, w_520, by decide +kernel⟩, w_519⟩
theorem lkRJ1_9 : LkS RJ1 9 yJ0_checkIndex_df160 qJ0_checkIndex_df160 2 := ⟨⟨Or.inl w_521, w_64, w_523, by decide +kernel⟩, w_522⟩
theorem lkRX0_18 : LkV RX0 18 yX0_isFallen qX0_isFallen 0 := ⟨⟨Or.inl w_378, w_53, w_354, by decide +kernel⟩, w_352, w_353⟩
theorem lkRX0_22 : LkV RX0 22 yX0_wear qX0_wear 0 := ⟨⟨Or.inl w_379, w_53, w_382, by decide +kernel⟩, w_381, w_0⟩
theorem lkRX0_26 : LkV RX0 26 yX0_scour qX0_scour 2 := ⟨⟨Or.inl w_383, w_53, w_386, by decide +kernel⟩, w_385, w_1⟩
theorem lkRX0_41 : LkV RX0 41 yX0_gain qX0_gain 0 := ⟨⟨Or.inl w_658, w_53, w_661, by decide +kernel⟩, w_660, w_13⟩
theorem lkRX10_108 : LkV RX10 108 yX10_isArch qX10_isArch 1 := ⟨⟨Or.inl w_900, w_61, w_903, by decide +kernel⟩, w_902, w_21⟩
theorem lkRX10_113 : LkV RX10 113 yX10_numberOf qX10_numberOf 2 := ⟨⟨Or.inl w_917, w_61, w_920, by decide +kernel⟩, w_919, w_24⟩
theorem lkRX10_117 : LkV RX10 117 yX10_asItIs qX10_asItIs 0 := ⟨⟨Or.inl w_909, w_61, w_912, by decide +kernel⟩, w_911, w_22⟩
theorem lkRX10_121 : LkV RX10 121 yX10_findLosses qX10_findLosses 1 := ⟨⟨Or.inl w_913, w_61, w_916, by decide +kernel⟩, w_915, w_23⟩
theorem lkRX10_125 : LkV RX10 125 yX10_lose qX10_lose 0 := ⟨⟨Or.inl w_926, w_61, w_929, by decide +kernel⟩, w_928, w_26⟩
theorem lkRX10_128 : LkV RX10 128 yX10_toldOf qX10_toldOf 1 := ⟨⟨Or.inl w_921, w_61, w_924, by decide +kernel⟩, w_923, w_25⟩
theorem lkRX10_132 : LkV RX10 132 yX10_spentAt qX10_spentAt 1 := ⟨⟨Or.inl w_930, w_61, w_933, by decide +kernel⟩, w_932, w_27⟩
theorem lkRX10_135 : LkS RX10 135 yX10_isSheet qX10_isSheet 1 := ⟨⟨Or.inl w_942, w_61, w_944, by decide +kernel⟩, w_943⟩
theorem lkRX10_144 : LkV RX10 144 yX10_four qX10_four 1 := ⟨⟨Or.inl w_964, w_61, w_967, by decide +kernel⟩, w_966, w_28⟩
theorem lkRX10_161 : LkV RX10 161 yX10_isWord qX10_isWord 2 := ⟨⟨Or.inl w_994, w_61, w_997, by decide +kernel⟩, w_996, w_33⟩
theorem lkRX10_173 : LkV RX10 173 yX10_next qX10_next 0 := ⟨⟨Or.inl w_980, w_61, w_983, by decide +kernel⟩, w_982, w_30⟩
theorem lkRX10_176 : LkV RX10 176 yX10_number qX10_number 0 := ⟨⟨Or.inl w_984, w_61, w_987, by decide +kernel⟩, w_986, w_31⟩
theorem lkRX10_183 : LkV RX10 183 yX10_here qX10_here 0 := ⟨⟨Or.inl w_989, w_61, w_992, by decide +kernel⟩, w_991, w_32⟩
theorem lkRX10_188 : LkV RX10 188 yX10_endOf qX10_endOf 0 := ⟨⟨Or.inl w_999, w_61, w_1002, by decide +kernel⟩, w_1001, w_34⟩
theorem lkRX10_209 : LkV RX10 209 yX10_told qX10_told 2 := ⟨⟨Or.inl w_1015, w_61, w_1018, by decide +kernel⟩, w_1017, w_36⟩
theorem lkRX10_213 : LkV RX10 213 yX10_readGift qX10_readGift 0 := ⟨⟨Or.inl w_976, w_61, w_979, by decide +kernel⟩, w_978, w_29⟩
theorem lkRX10_216 : LkV RX10 216 yX10_comes qX10_comes 3 := ⟨⟨Or.inl w_1011, w_61, w_1014, by decide +kernel⟩, w_1013, w_35⟩
theorem lkRX10_220 : LkV RX10 220 yX10_isPurse qX10_isPurse 1 := ⟨⟨Or.inl w_1023, w_61, w_1026, by decide +kernel⟩, w_1025, w_37⟩
theorem lkRX10_223 : LkV RX10 223 yX10_isOpen qX10_isOpen 1 := ⟨⟨Or.inl w_1027, w_61, w_1030, by decide +kernel⟩, w_1029, w_38⟩
theorem lkRX10_226 : LkV RX10 226 yX10_serves qX10_serves 2 := ⟨⟨Or.inl w_1043, w_61, w_1046, by decide +kernel⟩, w_1045, w_41⟩
theorem lkRX10_230 : LkV RX10 230 yX10_isEnd qX10_isEnd 1 := ⟨⟨Or.inl w_1035, w_61, w_1038, by decide +kernel⟩, w_1037, w_39⟩
theorem lkRX10_233 : LkV RX10 233 yX10_fundsOf qX10_fundsOf 1 := ⟨⟨Or.inl w_1039, w_61, w_1042, by decide +kernel⟩, w_1041, w_40⟩
theorem lkRX10_236 : LkV RX10 236 yX10_turnOf qX10_turnOf 1 := ⟨⟨Or.inl w_1063, w_61, w_1066, by decide +kernel⟩, w_1065, w_44⟩
theorem lkRX10_245 : LkV RX10 245 yX10_isSooner qX10_isSooner 2 := ⟨⟨Or.inl w_1059, w_61, w_1062, by decide +kernel⟩, w_1061, w_43⟩
theorem lkRX10_248 : LkV RX10 248 yX10_write qX10_write 3 := ⟨⟨Or.inl w_1067, w_61, w_1070, by decide +kernel⟩, w_1069, w_45⟩
theorem lkRX10_251 : LkV RX10 251 yX10_taken qX10_taken 2 := ⟨⟨Or.inl w_1055, w_61, w_1058, by decide +kernel⟩, w_1057, w_42⟩
theorem lkRX10_254 : LkV RX10 254 yX10_gain qX10_gain 1 := ⟨⟨Or.inl w_1079, w_61, w_1082, by decide +kernel⟩, w_1081, w_47⟩
theorem lkRX10_257 : LkV RX10 257 yX10_worked qX10_worked 3 := ⟨⟨Or.inl w_1075, w_61, w_1078, by decide +kernel⟩, w_1077, w_46⟩
theorem lkRX10_262 : LkV RX10 262 yX10_keep qX10_keep 0 := ⟨⟨Or.inl w_1091, w_61, w_1094, by decide +kernel⟩, w_1093, w_49⟩
theorem lkRX10_265 : LkV RX10 265 yX10_goOn qX10_goOn 0 := ⟨⟨Or.inl w_1087, w_61, w_1090, by decide +kernel⟩, w_1089, w_48⟩
theorem lkRX10_99 : LkS RX10 99 yX10_isIn qX10_isIn 3 := ⟨⟨Or.inl w_891, w_61, w_893, by decide +kernel⟩, w_892⟩
theorem lkRX2_22 : LkS RX2 22 yX9_isWithin qX9_isWithin 3 := ⟨⟨Or.inr ⟨_, w_350⟩, w_51, w_335, by decide +kernel⟩, w_334⟩
theorem lkRX2_32 : LkV RX2 32 yX0_isFallen qX0_isFallen 0 := ⟨⟨Or.inl w_373, w_53, w_354, by decide +kernel⟩, w_352, w_353⟩
theorem lkRX2_42 : LkV RX2 42 yX2_fallen qX2_fallen 0 := ⟨⟨Or.inl w_369, w_52, w_372, by decide +kernel⟩, w_370, w_371⟩
theorem lkRX2_46 : LkV RX2 46 yX2_blocked qX2_blocked 0 := ⟨⟨Or.inl w_407, w_52, w_368, by decide +kernel⟩, w_366, w_367⟩
theorem lkRX2_49 : LkV RX2 49 yX0_loss qX0_loss 2 := ⟨⟨Or.inl w_408, w_53, w_377, by decide +kernel⟩, w_375, w_376⟩
theorem lkRX2_53 : LkV RX2 53 yX0_weaken qX0_weaken 1 := ⟨⟨Or.inl w_409, w_53, w_412, by decide +kernel⟩, w_410, w_411⟩
theorem lkRX2_57 : LkV RX2 57 yX0_becomeLike qX0_becomeLike 1 := ⟨⟨Or.inl w_396, w_53, w_399, by decide +kernel⟩, w_397, w_398⟩
theorem lkRX3_28 : LkS RX3 28 yX9_isWithin qX9_isWithin 3 := ⟨⟨Or.inr ⟨_, w_588⟩, w_51, w_335, by decide +kernel⟩, w_334⟩
theorem lkRX3_51 : LkV RX3 51 yX5_canPay qX5_canPay 2 := ⟨⟨Or.inl w_605, w_57, w_608, by decide +kernel⟩, w_606, w_607⟩
theorem lkRX3_55 : LkV RX3 55 yX5_paysAheadOf qX5_paysAheadOf 1 := ⟨⟨Or.inl w_634, w_57, w_637, by decide +kernel⟩, w_635, w_636⟩
theorem lkRX4_19 : LkV RX4 19 yX4_toNextWord qX4_toNextWord 0 := ⟨⟨Or.inl w_485, w_55, w_488, by decide +kernel⟩, w_487, w_3⟩
theorem lkRX4_22 : LkV RX4 22 yX4_number qX4_number 0 := ⟨⟨Or.inl w_489, w_55, w_492, by decide +kernel⟩, w_491, w_4⟩
theorem lkRX4_29 : LkS RX4 29 yX9_isWithin qX9_isWithin 3 := ⟨⟨Or.inr ⟨_, w_493⟩, w_51, w_335, by decide +kernel⟩, w_334⟩
theorem lkRX4_35 : LkV RX4 35 yX4_isWord qX4_isWord 1 := ⟨⟨Or.inl w_496, w_55, w_499, by decide +kernel⟩, w_498, w_5⟩
theorem lkRX4_39 : LkV RX4 39 yX4_isEndRead qX4_isEndRead 1 := ⟨⟨Or.inl w_548, w_55, w_551, by decide +kernel⟩, w_550, w_6⟩
theorem lkRX4_43 : LkV RX4 43 yX4_areYearsRead qX4_areYearsRead 1 := ⟨⟨Or.inl w_557, w_55, w_560, by decide +kernel⟩, w_559, w_7⟩
theorem lkRX4_83 : LkV RX4 83 yJ0_length_8abf5 qJ0_length_8abf5 0 := ⟨⟨Or.inl w_500, w_64, w_503, by decide +kernel⟩, w_501, w_502⟩
theorem lkRX4_88 : LkV RX4 88 yJ0_charAt_5068e qJ0_charAt_5068e 1 := ⟨⟨Or.inl w_510, w_64, w_513, by decide +kernel⟩, w_511, w_512⟩
theorem lkRX5_25 : LkV RX5 25 yX5_isOpen qX5_isOpen 1 := ⟨⟨Or.inl w_609, w_57, w_592, by decide +kernel⟩, w_590, w_591⟩
theorem lkRX5_32 : LkV RX5 32 yX5_serves qX5_serves 1 := ⟨⟨Or.inl w_610, w_57, w_613, by decide +kernel⟩, w_612, w_10⟩
theorem lkRX5_38 : LkV RX5 38 yX5_breadth qX5_breadth 0 := ⟨⟨Or.inl w_638, w_57, w_641, by decide +kernel⟩, w_640, w_12⟩
theorem lkRX7_26 : LkS RX7 26 yX9_isWithin qX9_isWithin 3 := ⟨⟨Or.inr ⟨_, w_364⟩, w_51, w_335, by decide +kernel⟩, w_334⟩
theorem lkRX9_111 : LkV RX9 111 yX7_inYear qX7_inYear 1 := ⟨⟨Or.inl w_360, w_60, w_363, by decide +kernel⟩, w_361, w_362⟩
theorem lkRX9_114 : LkV RX9 114 yX2_blocked qX2_blocked 0 := ⟨⟨Or.inl w_365, w_52, w_368, by decide +kernel⟩, w_366, w_367⟩
theorem lkRX9_118 : LkV RX9 118 yX0_loss qX0_loss 2 := ⟨⟨Or.inl w_374, w_53, w_377, by decide +kernel⟩, w_375, w_376⟩
theorem lkRX9_122 : LkV RX9 122 yX9_yearOfFall qX9_yearOfFall 1 := ⟨⟨Or.inl w_387, w_51, w_390, by decide +kernel⟩, w_389, w_2⟩
theorem lkRX9_128 : LkV RX9 128 yX0_isKind qX0_isKind 1 := ⟨⟨Or.inl w_420, w_53, w_423, by decide +kernel⟩, w_421, w_422⟩
theorem lkRX9_131 : LkS RX9 131 yX9_isSheet qX9_isSheet 1 := ⟨⟨Or.inl w_428, w_51, w_430, by decide +kernel⟩, w_429⟩
theorem lkRX9_135 : LkV RX9 135 yX7_begin qX7_begin 2 := ⟨⟨Or.inl w_432, w_60, w_435, by decide +kernel⟩, w_433, w_434⟩
theorem lkRX9_146 : LkV RX9 146 yX7_mostInPlace qX7_mostInPlace 0 := ⟨⟨Or.inl w_442, w_60, w_445, by decide +kernel⟩, w_443, w_444⟩
theorem lkRX9_149 : LkV RX9 149 yX7_write qX7_write 2 := ⟨⟨Or.inl w_446, w_60, w_449, by decide +kernel⟩, w_447, w_448⟩
theorem lkRX9_155 : LkV RX9 155 yX7_hasPlaces qX7_hasPlaces 2 := ⟨⟨Or.inl w_454, w_60, w_457, by decide +kernel⟩, w_455, w_456⟩
theorem lkRX9_169 : LkV RX9 169 yX8_addNumber qX8_addNumber 1 := ⟨⟨Or.inl w_469, w_54, w_472, by decide +kernel⟩, w_470, w_471⟩
theorem lkRX9_173 : LkV RX9 173 yX4_isGift qX4_isGift 2 := ⟨⟨Or.inl w_481, w_55, w_484, by decide +kernel⟩, w_482, w_483⟩
theorem lkRX9_180 : LkV RX9 180 yX3_make qX3_make 1 := ⟨⟨Or.inl w_564, w_56, w_567, by decide +kernel⟩, w_565, w_566⟩
theorem lkRX9_191 : LkV RX9 191 yX9_bringGift qX9_bringGift 1 := ⟨⟨Or.inl w_568, w_51, w_571, by decide +kernel⟩, w_570, w_8⟩
theorem lkRX9_195 : LkV RX9 195 yX3_has qX3_has 1 := ⟨⟨Or.inl w_584, w_56, w_587, by decide +kernel⟩, w_585, w_586⟩
theorem lkRX9_211 : LkV RX9 211 yX5_isOpen qX5_isOpen 1 := ⟨⟨Or.inl w_589, w_57, w_592, by decide +kernel⟩, w_590, w_591⟩
theorem lkRX9_220 : LkV RX9 220 yX9_isEnd qX9_isEnd 1 := ⟨⟨Or.inl w_597, w_51, w_600, by decide +kernel⟩, w_599, w_9⟩
theorem lkRX9_223 : LkV RX9 223 yX3_coinsFor qX3_coinsFor 2 := ⟨⟨Or.inl w_601, w_56, w_604, by decide +kernel⟩, w_602, w_603⟩
theorem lkRX9_226 : LkS RX9 226 yX9_mostOfRule qX9_mostOfRule 1 := ⟨⟨Or.inl w_618, w_51, w_620, by decide +kernel⟩, w_619⟩
theorem lkRX9_230 : LkV RX9 230 yX9_takeCoins qX9_takeCoins 2 := ⟨⟨Or.inl w_626, w_51, w_629, by decide +kernel⟩, w_628, w_11⟩
theorem lkRX9_233 : LkV RX9 233 yX0_coinsUpTo qX0_coinsUpTo 1 := ⟨⟨Or.inl w_654, w_53, w_657, by decide +kernel⟩, w_655, w_656⟩
theorem lkRX9_241 : LkV RX9 241 yX9_workFor qX9_workFor 2 := ⟨⟨Or.inl w_662, w_51, w_665, by decide +kernel⟩, w_664, w_14⟩
theorem lkRX9_244 : LkV RX9 244 yX9_lapsePurses qX9_lapsePurses 0 := ⟨⟨Or.inl w_675, w_51, w_678, by decide +kernel⟩, w_677, w_15⟩
theorem lkRX9_247 : LkV RX9 247 yX9_bringGiftsOfYear qX9_bringGiftsOfYear 0 := ⟨⟨Or.inl w_683, w_51, w_686, by decide +kernel⟩, w_685, w_16⟩
theorem lkRX9_250 : LkV RX9 250 yX9_bringTolls qX9_bringTolls 0 := ⟨⟨Or.inl w_691, w_51, w_694, by decide +kernel⟩, w_693, w_17⟩
theorem lkRX9_253 : LkV RX9 253 yX9_bringRents qX9_bringRents 0 := ⟨⟨Or.inl w_700, w_51, w_703, by decide +kernel⟩, w_702, w_18⟩
theorem lkRX9_256 : LkV RX9 256 yX2_sufferYear qX2_sufferYear 1 := ⟨⟨Or.inl w_403, w_52, w_406, by decide +kernel⟩, w_404, w_405⟩
theorem lkRX9_259 : LkV RX9 259 yX9_keepUp qX9_keepUp 0 := ⟨⟨Or.inl w_708, w_51, w_711, by decide +kernel⟩, w_710, w_19⟩
theorem lkRX9_264 : LkV RX9 264 yX1_read qX1_read 2 := ⟨⟨Or.inl w_724, w_58, w_727, by decide +kernel⟩, w_725, w_726⟩
theorem lkRX9_267 : LkV RX9 267 yX6_read qX6_read 2 := ⟨⟨Or.inl w_732, w_59, w_735, by decide +kernel⟩, w_733, w_734⟩
theorem lkRX9_268 : LkV RX9 268 yX3_allCoins qX3_allCoins 0 := ⟨⟨Or.inl w_740, w_56, w_743, by decide +kernel⟩, w_741, w_742⟩
theorem lkRX9_273 : LkV RX9 273 yX2_fallen qX2_fallen 0 := ⟨⟨Or.inl w_695, w_52, w_372, by decide +kernel⟩, w_370, w_371⟩
theorem lkRX9_276 : LkV RX9 276 yX2_houses qX2_houses 0 := ⟨⟨Or.inl w_704, w_52, w_707, by decide +kernel⟩, w_705, w_706⟩
theorem lkRX9_278 : LkV RX9 278 yX9_sheetsThere qX9_sheetsThere 0 := ⟨⟨Or.inl w_752, w_51, w_755, by decide +kernel⟩, w_754, w_20⟩
theorem lkRX9_281 : LkV RX9 281 yX2_becomeLike qX2_becomeLike 1 := ⟨⟨Or.inl w_392, w_52, w_395, by decide +kernel⟩, w_393, w_394⟩
theorem lkRX9_288 : LkV RX9 288 yX5_receive qX5_receive 1 := ⟨⟨Or.inl w_572, w_57, w_575, by decide +kernel⟩, w_573, w_574⟩
theorem lkRX9_291 : LkV RX9 291 yX6_add qX6_add 3 := ⟨⟨Or.inl w_576, w_59, w_579, by decide +kernel⟩, w_577, w_578⟩
theorem lkRX9_295 : LkV RX9 295 yX3_nextToPay qX3_nextToPay 2 := ⟨⟨Or.inl w_630, w_56, w_633, by decide +kernel⟩, w_631, w_632⟩
theorem lkRX9_298 : LkV RX9 298 yX5_pay qX5_pay 2 := ⟨⟨Or.inl w_642, w_57, w_645, by decide +kernel⟩, w_643, w_644⟩
theorem lkRX9_301 : LkV RX9 301 yX1_write qX1_write 4 := ⟨⟨Or.inl w_646, w_58, w_649, by decide +kernel⟩, w_647, w_648⟩
theorem lkRX9_304 : LkV RX9 304 yX0_mend qX0_mend 1 := ⟨⟨Or.inl w_666, w_53, w_669, by decide +kernel⟩, w_667, w_668⟩
theorem lkRX9_307 : LkV RX9 307 yX5_lapse qX5_lapse 0 := ⟨⟨Or.inl w_679, w_57, w_682, by decide +kernel⟩, w_680, w_681⟩
theorem lkRX9_310 : LkV RX9 310 yX5_isDue qX5_isDue 1 := ⟨⟨Or.inl w_687, w_57, w_690, by decide +kernel⟩, w_688, w_689⟩
theorem lkRX9_313 : LkV RX9 313 yX2_hasDraw qX2_hasDraw 0 := ⟨⟨Or.inl w_696, w_52, w_699, by decide +kernel⟩, w_697, w_698⟩
theorem lkRX9_316 : LkV RX9 316 yX2_forgetChosen qX2_forgetChosen 0 := ⟨⟨Or.inl w_712, w_52, w_715, by decide +kernel⟩, w_713, w_714⟩
theorem lkRX9_319 : LkV RX9 319 yX2_weakestBelow qX2_weakestBelow 1 := ⟨⟨Or.inl w_716, w_52, w_719, by decide +kernel⟩, w_717, w_718⟩
theorem lkRX9_67 : LkS RX9 67 yX9_isWithin qX9_isWithin 3 := ⟨⟨Or.inl w_333, w_51, w_335, by decide +kernel⟩, w_334⟩
theorem lkRX9_77 : LkV RX9 77 yX2_build qX2_build 1 := ⟨⟨Or.inl w_338, w_52, w_341, by decide +kernel⟩, w_339, w_340⟩
theorem lkRX9_81 : LkV RX9 81 yX2_has qX2_has 1 := ⟨⟨Or.inl w_346, w_52, w_349, by decide +kernel⟩, w_347, w_348⟩
theorem lkRX9_89 : LkV RX9 89 yX0_isFallen qX0_isFallen 0 := ⟨⟨Or.inl w_351, w_53, w_354, by decide +kernel⟩, w_352, w_353⟩
theorem fdRX0_15 : FdX RX0 15 0 0 := ⟨RX0, TX0, 6, rfl, inT_0, by decide, rfl, Or.inl w_89⟩
theorem fdRX0_30 : FdX RX0 30 0 2 := ⟨RX0, TX0, 6, rfl, inT_0, by decide, rfl, Or.inl w_96⟩
theorem fdRX0_38 : FdX RX0 38 0 3 := ⟨RX0, TX0, 6, rfl, inT_0, by decide, rfl, Or.inl w_100⟩
theorem fdRX0_47 : FdX RX0 47 0 4 := ⟨RX0, TX0, 6, rfl, inT_0, by decide, rfl, Or.inl w_102⟩
theorem fdRX0_9 : FdX RX0 9 0 1 := ⟨RX0, TX0, 6, rfl, inT_0, by decide, rfl, Or.inl w_92⟩
theorem fdRX10_103 : FdX RX10 103 10 0 := ⟨RX10, TX10, 41, rfl, inT_10, by decide, rfl, Or.inl w_762⟩
theorem fdRX10_13 : FdX RX10 13 10 3 := ⟨RX10, TX10, 41, rfl, inT_10, by decide, rfl, Or.inl w_765⟩
theorem fdRX10_141 : FdX RX10 141 10 12 := ⟨RX10, TX10, 41, rfl, inT_10, by decide, rfl, Or.inl w_774⟩
theorem fdRX10_147 : FdX RX10 147 10 32 := ⟨RX10, TX10, 41, rfl, inT_10, by decide, rfl, Or.inl w_794⟩
theorem fdRX10_150 : FdX RX10 150 10 33 := ⟨RX10, TX10, 41, rfl, inT_10, by decide, rfl, Or.inl w_795⟩
theorem fdRX10_153 : FdX RX10 153 10 34 := ⟨RX10, TX10, 41, rfl, inT_10, by decide, rfl, Or.inl w_796⟩
theorem fdRX10_16 : FdX RX10 16 10 4 := ⟨RX10, TX10, 41, rfl, inT_10, by decide, rfl, Or.inl w_766⟩
theorem fdRX10_180 : FdX RX10 180 10 35 := ⟨RX10, TX10, 41, rfl, inT_10, by decide, rfl, Or.inl w_797⟩
theorem fdRX10_19 : FdX RX10 19 10 5 := ⟨RX10, TX10, 41, rfl, inT_10, by decide, rfl, Or.inl w_767⟩
theorem fdRX10_191 : FdX RX10 191 10 36 := ⟨RX10, TX10, 41, rfl, inT_10, by decide, rfl, Or.inl w_798⟩
theorem fdRX10_194 : FdX RX10 194 10 37 := ⟨RX10, TX10, 41, rfl, inT_10, by decide, rfl, Or.inl w_799⟩
theorem fdRX10_197 : FdX RX10 197 10 38 := ⟨RX10, TX10, 41, rfl, inT_10, by decide, rfl, Or.inl w_800⟩
theorem fdRX10_200 : FdX RX10 200 10 39 := ⟨RX10, TX10, 41, rfl, inT_10, by decide, rfl, Or.inl w_801⟩
theorem fdRX10_22 : FdX RX10 22 10 6 := ⟨RX10, TX10, 41, rfl, inT_10, by decide, rfl, Or.inl w_768⟩
theorem fdRX10_239 : FdX RX10 239 10 25 := ⟨RX10, TX10, 41, rfl, inT_10, by decide, rfl, Or.inl w_787⟩
theorem fdRX10_242 : FdX RX10 242 10 24 := ⟨RX10, TX10, 41, rfl, inT_10, by decide, rfl, Or.inl w_786⟩
theorem fdRX10_25 : FdX RX10 25 10 7 := ⟨RX10, TX10, 41, rfl, inT_10, by decide, rfl, Or.inl w_769⟩
theorem fdRX10_29 : FdX RX10 29 10 8 := ⟨RX10, TX10, 41, rfl, inT_10, by decide, rfl, Or.inl w_770⟩
theorem fdRX10_32 : FdX RX10 32 10 9 := ⟨RX10, TX10, 41, rfl, inT_10, by decide, rfl, Or.inl w_771⟩
theorem fdRX10_35 : FdX RX10 35 10 10 := ⟨RX10, TX10, 41, rfl, inT_10, by decide, rfl, Or.inl w_772⟩
theorem fdRX10_38 : FdX RX10 38 10 11 := ⟨RX10, TX10, 41, rfl, inT_10, by decide, rfl, Or.inl w_773⟩
theorem fdRX10_41 : FdX RX10 41 10 14 := ⟨RX10, TX10, 41, rfl, inT_10, by decide, rfl, Or.inl w_776⟩
theorem fdRX10_44 : FdX RX10 44 10 15 := ⟨RX10, TX10, 41, rfl, inT_10, by decide, rfl, Or.inl w_777⟩
theorem fdRX10_47 : FdX RX10 47 10 16 := ⟨RX10, TX10, 41, rfl, inT_10, by decide, rfl, Or.inl w_778⟩
theorem fdRX10_50 : FdX RX10 50 10 17 := ⟨RX10, TX10, 41, rfl, inT_10, by decide, rfl, Or.inl w_779⟩
theorem fdRX10_53 : FdX RX10 53 10 18 := ⟨RX10, TX10, 41, rfl, inT_10, by decide, rfl, Or.inl w_780⟩
theorem fdRX10_56 : FdX RX10 56 10 19 := ⟨RX10, TX10, 41, rfl, inT_10, by decide, rfl, Or.inl w_781⟩
theorem fdRX10_59 : FdX RX10 59 10 20 := ⟨RX10, TX10, 41, rfl, inT_10, by decide, rfl, Or.inl w_782⟩
theorem fdRX10_62 : FdX RX10 62 10 21 := ⟨RX10, TX10, 41, rfl, inT_10, by decide, rfl, Or.inl w_783⟩
theorem fdRX10_65 : FdX RX10 65 10 22 := ⟨RX10, TX10, 41, rfl, inT_10, by decide, rfl, Or.inl w_784⟩
theorem fdRX10_68 : FdX RX10 68 10 23 := ⟨RX10, TX10, 41, rfl, inT_10, by decide, rfl, Or.inl w_785⟩
theorem fdRX10_7 : FdX RX10 7 10 2 := ⟨RX10, TX10, 41, rfl, inT_10, by decide, rfl, Or.inl w_764⟩
theorem fdRX10_71 : FdX RX10 71 10 26 := ⟨RX10, TX10, 41, rfl, inT_10, by decide, rfl, Or.inl w_788⟩
theorem fdRX10_74 : FdX RX10 74 10 27 := ⟨RX10, TX10, 41, rfl, inT_10, by decide, rfl, Or.inl w_789⟩
theorem fdRX10_77 : FdX RX10 77 10 28 := ⟨RX10, TX10, 41, rfl, inT_10, by decide, rfl, Or.inl w_790⟩
theorem fdRX10_80 : FdX RX10 80 10 29 := ⟨RX10, TX10, 41, rfl, inT_10, by decide, rfl, Or.inl w_791⟩
theorem fdRX10_83 : FdX RX10 83 10 30 := ⟨RX10, TX10, 41, rfl, inT_10, by decide, rfl, Or.inl w_792⟩
theorem fdRX10_86 : FdX RX10 86 10 31 := ⟨RX10, TX10, 41, rfl, inT_10, by decide, rfl, Or.inl w_793⟩
theorem fdRX10_89 : FdX RX10 89 10 40 := ⟨RX10, TX10, 41, rfl, inT_10, by decide, rfl, Or.inl w_802⟩
theorem fdRX10_92 : FdX RX10 92 10 13 := ⟨RX10, TX10, 41, rfl, inT_10, by decide, rfl, Or.inl w_775⟩
theorem fdRX10_96 : FdX RX10 96 10 1 := ⟨RX10, TX10, 41, rfl, inT_10, by decide, rfl, Or.inl w_763⟩
theorem fdRX1_15 : FdX RX1 15 1 1 := ⟨RX1, TX1, 3, rfl, inT_1, by decide, rfl, Or.inl w_256⟩
theorem fdRX1_19 : FdX RX1 19 1 2 := ⟨RX1, TX1, 3, rfl, inT_1, by decide, rfl, Or.inl w_257⟩
theorem fdRX1_9 : FdX RX1 9 1 0 := ⟨RX1, TX1, 3, rfl, inT_1, by decide, rfl, Or.inl w_255⟩
theorem fdRX2_11 : FdX RX2 11 2 0 := ⟨RX2, TX2, 2, rfl, inT_2, by decide, rfl, Or.inl w_118⟩
theorem fdRX2_18 : FdX RX2 18 2 1 := ⟨RX2, TX2, 2, rfl, inT_2, by decide, rfl, Or.inl w_120⟩
theorem fdRX2_26 : FdX RX2 26 0 0 := ⟨RX0, TX0, 6, rfl, inT_0, by decide, rfl, Or.inr ⟨_, w_90⟩⟩
theorem fdRX2_29 : FdX RX2 29 0 1 := ⟨RX0, TX0, 6, rfl, inT_0, by decide, rfl, Or.inr ⟨_, w_93⟩⟩
theorem fdRX2_36 : FdX RX2 36 0 2 := ⟨RX0, TX0, 6, rfl, inT_0, by decide, rfl, Or.inr ⟨_, w_97⟩⟩
theorem fdRX2_39 : FdX RX2 39 0 3 := ⟨RX0, TX0, 6, rfl, inT_0, by decide, rfl, Or.inr ⟨_, w_99⟩⟩
theorem fdRX2_61 : FdX RX2 61 0 5 := ⟨RX0, TX0, 6, rfl, inT_0, by decide, rfl, Or.inr ⟨_, w_103⟩⟩
theorem fdRX3_11 : FdX RX3 11 3 0 := ⟨RX3, TX3, 2, rfl, inT_3, by decide, rfl, Or.inl w_240⟩
theorem fdRX3_17 : FdX RX3 17 3 1 := ⟨RX3, TX3, 2, rfl, inT_3, by decide, rfl, Or.inl w_242⟩
theorem fdRX3_32 : FdX RX3 32 4 4 := ⟨RX4, TX4, 8, rfl, inT_4, by decide, rfl, Or.inr ⟨_, w_158⟩⟩
theorem fdRX3_35 : FdX RX3 35 4 5 := ⟨RX4, TX4, 8, rfl, inT_4, by decide, rfl, Or.inr ⟨_, w_160⟩⟩
theorem fdRX3_39 : FdX RX3 39 4 6 := ⟨RX4, TX4, 8, rfl, inT_4, by decide, rfl, Or.inr ⟨_, w_163⟩⟩
theorem fdRX3_40 : FdX RX3 40 4 3 := ⟨RX4, TX4, 8, rfl, inT_4, by decide, rfl, Or.inr ⟨_, w_157⟩⟩
theorem fdRX3_44 : FdX RX3 44 4 7 := ⟨RX4, TX4, 8, rfl, inT_4, by decide, rfl, Or.inr ⟨_, w_165⟩⟩
theorem fdRX3_48 : FdX RX3 48 5 6 := ⟨RX5, TX5, 9, rfl, inT_5, by decide, rfl, Or.inr ⟨_, w_214⟩⟩
theorem fdRX4_15 : FdX RX4 15 4 2 := ⟨RX4, TX4, 8, rfl, inT_4, by decide, rfl, Or.inl w_155⟩
theorem fdRX4_26 : FdX RX4 26 4 3 := ⟨RX4, TX4, 8, rfl, inT_4, by decide, rfl, Or.inl w_156⟩
theorem fdRX4_46 : FdX RX4 46 4 1 := ⟨RX4, TX4, 8, rfl, inT_4, by decide, rfl, Or.inl w_153⟩
theorem fdRX4_49 : FdX RX4 49 8 1 := ⟨RX8, TX8, 2, rfl, inT_8, by decide, rfl, Or.inr ⟨_, w_138⟩⟩
theorem fdRX4_67 : FdX RX4 67 4 5 := ⟨RX4, TX4, 8, rfl, inT_4, by decide, rfl, Or.inl w_161⟩
theorem fdRX4_70 : FdX RX4 70 4 6 := ⟨RX4, TX4, 8, rfl, inT_4, by decide, rfl, Or.inl w_164⟩
theorem fdRX4_77 : FdX RX4 77 4 7 := ⟨RX4, TX4, 8, rfl, inT_4, by decide, rfl, Or.inl w_166⟩
theorem fdRX4_79 : FdX RX4 79 8 0 := ⟨RX8, TX8, 2, rfl, inT_8, by decide, rfl, Or.inr ⟨_, w_136⟩⟩
theorem fdRX4_9 : FdX RX4 9 4 0 := ⟨RX4, TX4, 8, rfl, inT_4, by decide, rfl, Or.inl w_152⟩
theorem fdRX5_15 : FdX RX5 15 5 2 := ⟨RX5, TX5, 9, rfl, inT_5, by decide, rfl, Or.inl w_202⟩
theorem fdRX5_19 : FdX RX5 19 5 3 := ⟨RX5, TX5, 9, rfl, inT_5, by decide, rfl, Or.inl w_206⟩
theorem fdRX5_22 : FdX RX5 22 5 5 := ⟨RX5, TX5, 9, rfl, inT_5, by decide, rfl, Or.inl w_210⟩
theorem fdRX5_29 : FdX RX5 29 5 6 := ⟨RX5, TX5, 9, rfl, inT_5, by decide, rfl, Or.inl w_213⟩
theorem fdRX5_35 : FdX RX5 35 5 1 := ⟨RX5, TX5, 9, rfl, inT_5, by decide, rfl, Or.inl w_200⟩
theorem fdRX5_42 : FdX RX5 42 5 7 := ⟨RX5, TX5, 9, rfl, inT_5, by decide, rfl, Or.inl w_216⟩
theorem fdRX5_45 : FdX RX5 45 5 8 := ⟨RX5, TX5, 9, rfl, inT_5, by decide, rfl, Or.inl w_218⟩
theorem fdRX5_9 : FdX RX5 9 5 0 := ⟨RX5, TX5, 9, rfl, inT_5, by decide, rfl, Or.inl w_197⟩
theorem fdRX6_9 : FdX RX6 9 6 0 := ⟨RX6, TX6, 1, rfl, inT_6, by decide, rfl, Or.inl w_272⟩
theorem fdRX7_15 : FdX RX7 15 7 1 := ⟨RX7, TX7, 4, rfl, inT_7, by decide, rfl, Or.inl w_283⟩
theorem fdRX7_19 : FdX RX7 19 7 2 := ⟨RX7, TX7, 4, rfl, inT_7, by decide, rfl, Or.inl w_285⟩
theorem fdRX7_23 : FdX RX7 23 7 3 := ⟨RX7, TX7, 4, rfl, inT_7, by decide, rfl, Or.inl w_287⟩
theorem fdRX7_9 : FdX RX7 9 7 0 := ⟨RX7, TX7, 4, rfl, inT_7, by decide, rfl, Or.inl w_281⟩
theorem fdRX8_15 : FdX RX8 15 8 1 := ⟨RX8, TX8, 2, rfl, inT_8, by decide, rfl, Or.inl w_137⟩
theorem fdRX8_9 : FdX RX8 9 8 0 := ⟨RX8, TX8, 2, rfl, inT_8, by decide, rfl, Or.inl w_135⟩
theorem fdRX9_102 : FdX RX9 102 0 0 := ⟨RX0, TX0, 6, rfl, inT_0, by decide, rfl, Or.inr ⟨_, w_91⟩⟩
theorem fdRX9_105 : FdX RX9 105 0 1 := ⟨RX0, TX0, 6, rfl, inT_0, by decide, rfl, Or.inr ⟨_, w_94⟩⟩
theorem fdRX9_108 : FdX RX9 108 9 9 := ⟨RX9, TX9, 10, rfl, inT_9, by decide, rfl, Or.inl w_307⟩
theorem fdRX9_12 : FdX RX9 12 9 0 := ⟨RX9, TX9, 10, rfl, inT_9, by decide, rfl, Or.inl w_298⟩
theorem fdRX9_125 : FdX RX9 125 0 4 := ⟨RX0, TX0, 6, rfl, inT_0, by decide, rfl, Or.inr ⟨_, w_101⟩⟩
theorem fdRX9_139 : FdX RX9 139 7 1 := ⟨RX7, TX7, 4, rfl, inT_7, by decide, rfl, Or.inr ⟨_, w_284⟩⟩
theorem fdRX9_144 : FdX RX9 144 7 3 := ⟨RX7, TX7, 4, rfl, inT_7, by decide, rfl, Or.inr ⟨_, w_288⟩⟩
theorem fdRX9_152 : FdX RX9 152 7 2 := ⟨RX7, TX7, 4, rfl, inT_7, by decide, rfl, Or.inr ⟨_, w_286⟩⟩
theorem fdRX9_159 : FdX RX9 159 7 0 := ⟨RX7, TX7, 4, rfl, inT_7, by decide, rfl, Or.inr ⟨_, w_282⟩⟩
theorem fdRX9_16 : FdX RX9 16 9 1 := ⟨RX9, TX9, 10, rfl, inT_9, by decide, rfl, Or.inl w_299⟩
theorem fdRX9_168 : FdX RX9 168 8 1 := ⟨RX8, TX8, 2, rfl, inT_8, by decide, rfl, Or.inr ⟨_, w_139⟩⟩
theorem fdRX9_176 : FdX RX9 176 4 1 := ⟨RX4, TX4, 8, rfl, inT_4, by decide, rfl, Or.inr ⟨_, w_154⟩⟩
theorem fdRX9_179 : FdX RX9 179 3 1 := ⟨RX3, TX3, 2, rfl, inT_3, by decide, rfl, Or.inr ⟨_, w_243⟩⟩
theorem fdRX9_184 : FdX RX9 184 4 5 := ⟨RX4, TX4, 8, rfl, inT_4, by decide, rfl, Or.inr ⟨_, w_162⟩⟩
theorem fdRX9_187 : FdX RX9 187 3 0 := ⟨RX3, TX3, 2, rfl, inT_3, by decide, rfl, Or.inr ⟨_, w_241⟩⟩
theorem fdRX9_196 : FdX RX9 196 5 1 := ⟨RX5, TX5, 9, rfl, inT_5, by decide, rfl, Or.inr ⟨_, w_201⟩⟩
theorem fdRX9_201 : FdX RX9 201 5 2 := ⟨RX5, TX5, 9, rfl, inT_5, by decide, rfl, Or.inr ⟨_, w_204⟩⟩
theorem fdRX9_202 : FdX RX9 202 5 3 := ⟨RX5, TX5, 9, rfl, inT_5, by decide, rfl, Or.inr ⟨_, w_207⟩⟩
theorem fdRX9_205 : FdX RX9 205 5 6 := ⟨RX5, TX5, 9, rfl, inT_5, by decide, rfl, Or.inr ⟨_, w_215⟩⟩
theorem fdRX9_208 : FdX RX9 208 5 5 := ⟨RX5, TX5, 9, rfl, inT_5, by decide, rfl, Or.inr ⟨_, w_212⟩⟩
theorem fdRX9_21 : FdX RX9 21 9 2 := ⟨RX9, TX9, 10, rfl, inT_9, by decide, rfl, Or.inl w_300⟩
theorem fdRX9_214 : FdX RX9 214 5 7 := ⟨RX5, TX5, 9, rfl, inT_5, by decide, rfl, Or.inr ⟨_, w_217⟩⟩
theorem fdRX9_217 : FdX RX9 217 5 8 := ⟨RX5, TX5, 9, rfl, inT_5, by decide, rfl, Or.inr ⟨_, w_219⟩⟩
theorem fdRX9_262 : FdX RX9 262 1 2 := ⟨RX1, TX1, 3, rfl, inT_1, by decide, rfl, Or.inr ⟨_, w_258⟩⟩
theorem fdRX9_271 : FdX RX9 271 5 0 := ⟨RX5, TX5, 9, rfl, inT_5, by decide, rfl, Or.inr ⟨_, w_198⟩⟩
theorem fdRX9_28 : FdX RX9 28 9 3 := ⟨RX9, TX9, 10, rfl, inT_9, by decide, rfl, Or.inl w_301⟩
theorem fdRX9_285 : FdX RX9 285 5 4 := ⟨RX5, TX5, 9, rfl, inT_5, by decide, rfl, Or.inr ⟨_, w_209⟩⟩
theorem fdRX9_37 : FdX RX9 37 9 4 := ⟨RX9, TX9, 10, rfl, inT_9, by decide, rfl, Or.inl w_302⟩
theorem fdRX9_44 : FdX RX9 44 9 5 := ⟨RX9, TX9, 10, rfl, inT_9, by decide, rfl, Or.inl w_303⟩
theorem fdRX9_51 : FdX RX9 51 9 6 := ⟨RX9, TX9, 10, rfl, inT_9, by decide, rfl, Or.inl w_304⟩
theorem fdRX9_58 : FdX RX9 58 9 7 := ⟨RX9, TX9, 10, rfl, inT_9, by decide, rfl, Or.inl w_305⟩
theorem fdRX9_62 : FdX RX9 62 9 8 := ⟨RX9, TX9, 10, rfl, inT_9, by decide, rfl, Or.inl w_306⟩
theorem fdRX9_72 : FdX RX9 72 2 1 := ⟨RX2, TX2, 2, rfl, inT_2, by decide, rfl, Or.inr ⟨_, w_121⟩⟩
theorem fdRX9_85 : FdX RX9 85 2 0 := ⟨RX2, TX2, 2, rfl, inT_2, by decide, rfl, Or.inr ⟨_, w_119⟩⟩
theorem fdRX9_96 : FdX RX9 96 0 2 := ⟨RX0, TX0, 6, rfl, inT_0, by decide, rfl, Or.inr ⟨_, w_95⟩⟩
theorem fdRX9_99 : FdX RX9 99 0 3 := ⟨RX0, TX0, 6, rfl, inT_0, by decide, rfl, Or.inr ⟨_, w_98⟩⟩
theorem fpRX0_15 : FpX RX0 15 0 0 .int := ⟨RX0, TX0, 6, tyX0, rfl, inT_0, by decide, rfl, Or.inl w_89, tyX0_ok, nmX0, rfl, rfl⟩
theorem fpRX0_30 : FpX RX0 30 0 2 .int := ⟨RX0, TX0, 6, tyX0, rfl, inT_0, by decide, rfl, Or.inl w_96, tyX0_ok, nmX0, rfl, rfl⟩
theorem fpRX0_38 : FpX RX0 38 0 3 .int := ⟨RX0, TX0, 6, tyX0, rfl, inT_0, by decide, rfl, Or.inl w_100, tyX0_ok, nmX0, rfl, rfl⟩
theorem fpRX0_47 : FpX RX0 47 0 4 .int := ⟨RX0, TX0, 6, tyX0, rfl, inT_0, by decide, rfl, Or.inl w_102, tyX0_ok, nmX0, rfl, rfl⟩
theorem fpRX0_9 : FpX RX0 9 0 1 .int := ⟨RX0, TX0, 6, tyX0, rfl, inT_0, by decide, rfl, Or.inl w_92, tyX0_ok, nmX0, rfl, rfl⟩
theorem fpRX10_103 : FpX RX10 103 10 0 .int := ⟨RX10, TX10, 41, tyX10, rfl, inT_10, by decide, rfl, Or.inl w_762, tyX10_ok, nmX10, rfl, rfl⟩
theorem fpRX10_141 : FpX RX10 141 10 12 .int := ⟨RX10, TX10, 41, tyX10, rfl, inT_10, by decide, rfl, Or.inl w_774, tyX10_ok, nmX10, rfl, rfl⟩
theorem fpRX10_147 : FpX RX10 147 10 32 .int := ⟨RX10, TX10, 41, tyX10, rfl, inT_10, by decide, rfl, Or.inl w_794, tyX10_ok, nmX10, rfl, rfl⟩
theorem fpRX10_150 : FpX RX10 150 10 33 .int := ⟨RX10, TX10, 41, tyX10, rfl, inT_10, by decide, rfl, Or.inl w_795, tyX10_ok, nmX10, rfl, rfl⟩
theorem fpRX10_153 : FpX RX10 153 10 34 .int := ⟨RX10, TX10, 41, tyX10, rfl, inT_10, by decide, rfl, Or.inl w_796, tyX10_ok, nmX10, rfl, rfl⟩
theorem fpRX10_180 : FpX RX10 180 10 35 .int := ⟨RX10, TX10, 41, tyX10, rfl, inT_10, by decide, rfl, Or.inl w_797, tyX10_ok, nmX10, rfl, rfl⟩
theorem fpRX10_191 : FpX RX10 191 10 36 .int := ⟨RX10, TX10, 41, tyX10, rfl, inT_10, by decide, rfl, Or.inl w_798, tyX10_ok, nmX10, rfl, rfl⟩
theorem fpRX10_194 : FpX RX10 194 10 37 .int := ⟨RX10, TX10, 41, tyX10, rfl, inT_10, by decide, rfl, Or.inl w_799, tyX10_ok, nmX10, rfl, rfl⟩
theorem fpRX10_197 : FpX RX10 197 10 38 .int := ⟨RX10, TX10, 41, tyX10, rfl, inT_10, by decide, rfl, Or.inl w_800, tyX10_ok, nmX10, rfl, rfl⟩
theorem fpRX10_200 : FpX RX10 200 10 39 .int := ⟨RX10, TX10, 41, tyX10, rfl, inT_10, by decide, rfl, Or.inl w_801, tyX10_ok, nmX10, rfl, rfl⟩
theorem fpRX10_239 : FpX RX10 239 10 25 .int := ⟨RX10, TX10, 41, tyX10, rfl, inT_10, by decide, rfl, Or.inl w_787, tyX10_ok, nmX10, rfl, rfl⟩
theorem fpRX10_242 : FpX RX10 242 10 24 .int := ⟨RX10, TX10, 41, tyX10, rfl, inT_10, by decide, rfl, Or.inl w_786, tyX10_ok, nmX10, rfl, rfl⟩
theorem fpRX10_92 : FpX RX10 92 10 13 .int := ⟨RX10, TX10, 41, tyX10, rfl, inT_10, by decide, rfl, Or.inl w_775, tyX10_ok, nmX10, rfl, rfl⟩
theorem fpRX10_96 : FpX RX10 96 10 1 .int := ⟨RX10, TX10, 41, tyX10, rfl, inT_10, by decide, rfl, Or.inl w_763, tyX10_ok, nmX10, rfl, rfl⟩
theorem fpRX1_15 : FpX RX1 15 1 1 .int := ⟨RX1, TX1, 3, tyX1, rfl, inT_1, by decide, rfl, Or.inl w_256, tyX1_ok, nmX1, rfl, rfl⟩
theorem fpRX1_19 : FpX RX1 19 1 2 .int := ⟨RX1, TX1, 3, tyX1, rfl, inT_1, by decide, rfl, Or.inl w_257, tyX1_ok, nmX1, rfl, rfl⟩
theorem fpRX2_18 : FpX RX2 18 2 1 .int := ⟨RX2, TX2, 2, tyX2, rfl, inT_2, by decide, rfl, Or.inl w_120, tyX2_ok, nmX2, rfl, rfl⟩
theorem fpRX2_26 : FpX RX2 26 0 0 .int := ⟨RX0, TX0, 6, tyX0, rfl, inT_0, by decide, rfl, Or.inr ⟨_, w_90⟩, tyX0_ok, nmX0, rfl, rfl⟩
theorem fpRX2_29 : FpX RX2 29 0 1 .int := ⟨RX0, TX0, 6, tyX0, rfl, inT_0, by decide, rfl, Or.inr ⟨_, w_93⟩, tyX0_ok, nmX0, rfl, rfl⟩
theorem fpRX2_61 : FpX RX2 61 0 5 .boolean := ⟨RX0, TX0, 6, tyX0, rfl, inT_0, by decide, rfl, Or.inr ⟨_, w_103⟩, tyX0_ok, nmX0, rfl, rfl⟩
theorem fpRX3_17 : FpX RX3 17 3 1 .int := ⟨RX3, TX3, 2, tyX3, rfl, inT_3, by decide, rfl, Or.inl w_242, tyX3_ok, nmX3, rfl, rfl⟩
theorem fpRX3_22 : FpX RX3 22 5 1 .int := ⟨RX5, TX5, 9, tyX5, rfl, inT_5, by decide, rfl, Or.inr ⟨_, w_199⟩, tyX5_ok, nmX5, rfl, rfl⟩
theorem fpRX3_25 : FpX RX3 25 5 3 .int := ⟨RX5, TX5, 9, tyX5, rfl, inT_5, by decide, rfl, Or.inr ⟨_, w_205⟩, tyX5_ok, nmX5, rfl, rfl⟩
theorem fpRX3_38 : FpX RX3 38 5 2 .int := ⟨RX5, TX5, 9, tyX5, rfl, inT_5, by decide, rfl, Or.inr ⟨_, w_203⟩, tyX5_ok, nmX5, rfl, rfl⟩
theorem fpRX3_43 : FpX RX3 43 5 4 .int := ⟨RX5, TX5, 9, tyX5, rfl, inT_5, by decide, rfl, Or.inr ⟨_, w_208⟩, tyX5_ok, nmX5, rfl, rfl⟩
theorem fpRX3_47 : FpX RX3 47 5 5 .int := ⟨RX5, TX5, 9, tyX5, rfl, inT_5, by decide, rfl, Or.inr ⟨_, w_211⟩, tyX5_ok, nmX5, rfl, rfl⟩
theorem fpRX4_15 : FpX RX4 15 4 2 .int := ⟨RX4, TX4, 8, tyX4, rfl, inT_4, by decide, rfl, Or.inl w_155, tyX4_ok, nmX4, rfl, rfl⟩
theorem fpRX4_26 : FpX RX4 26 4 3 .int := ⟨RX4, TX4, 8, tyX4, rfl, inT_4, by decide, rfl, Or.inl w_156, tyX4_ok, nmX4, rfl, rfl⟩
theorem fpRX4_46 : FpX RX4 46 4 1 .int := ⟨RX4, TX4, 8, tyX4, rfl, inT_4, by decide, rfl, Or.inl w_153, tyX4_ok, nmX4, rfl, rfl⟩
theorem fpRX4_56 : FpX RX4 56 4 4 .int := ⟨RX4, TX4, 8, tyX4, rfl, inT_4, by decide, rfl, Or.inl w_159, tyX4_ok, nmX4, rfl, rfl⟩
theorem fpRX4_67 : FpX RX4 67 4 5 .int := ⟨RX4, TX4, 8, tyX4, rfl, inT_4, by decide, rfl, Or.inl w_161, tyX4_ok, nmX4, rfl, rfl⟩
theorem fpRX4_70 : FpX RX4 70 4 6 .int := ⟨RX4, TX4, 8, tyX4, rfl, inT_4, by decide, rfl, Or.inl w_164, tyX4_ok, nmX4, rfl, rfl⟩
theorem fpRX4_77 : FpX RX4 77 4 7 .int := ⟨RX4, TX4, 8, tyX4, rfl, inT_4, by decide, rfl, Or.inl w_166, tyX4_ok, nmX4, rfl, rfl⟩
theorem fpRX5_29 : FpX RX5 29 5 6 .int := ⟨RX5, TX5, 9, tyX5, rfl, inT_5, by decide, rfl, Or.inl w_213, tyX5_ok, nmX5, rfl, rfl⟩
theorem fpRX5_42 : FpX RX5 42 5 7 .int := ⟨RX5, TX5, 9, tyX5, rfl, inT_5, by decide, rfl, Or.inl w_216, tyX5_ok, nmX5, rfl, rfl⟩
theorem fpRX5_45 : FpX RX5 45 5 8 .int := ⟨RX5, TX5, 9, tyX5, rfl, inT_5, by decide, rfl, Or.inl w_218, tyX5_ok, nmX5, rfl, rfl⟩
theorem fpRX7_15 : FpX RX7 15 7 1 .boolean := ⟨RX7, TX7, 4, tyX7, rfl, inT_7, by decide, rfl, Or.inl w_283, tyX7_ok, nmX7, rfl, rfl⟩
theorem fpRX7_19 : FpX RX7 19 7 2 .int := ⟨RX7, TX7, 4, tyX7, rfl, inT_7, by decide, rfl, Or.inl w_285, tyX7_ok, nmX7, rfl, rfl⟩
theorem fpRX7_23 : FpX RX7 23 7 3 .int := ⟨RX7, TX7, 4, tyX7, rfl, inT_7, by decide, rfl, Or.inl w_287, tyX7_ok, nmX7, rfl, rfl⟩
theorem fpRX8_15 : FpX RX8 15 8 1 .int := ⟨RX8, TX8, 2, tyX8, rfl, inT_8, by decide, rfl, Or.inl w_137, tyX8_ok, nmX8, rfl, rfl⟩
theorem fpRX9_108 : FpX RX9 108 9 9 .int := ⟨RX9, TX9, 10, tyX9, rfl, inT_9, by decide, rfl, Or.inl w_307, tyX9_ok, nmX9, rfl, rfl⟩
theorem fpRX9_139 : FpX RX9 139 7 1 .boolean := ⟨RX7, TX7, 4, tyX7, rfl, inT_7, by decide, rfl, Or.inr ⟨_, w_284⟩, tyX7_ok, nmX7, rfl, rfl⟩
theorem fpRX9_168 : FpX RX9 168 8 1 .int := ⟨RX8, TX8, 2, tyX8, rfl, inT_8, by decide, rfl, Or.inr ⟨_, w_139⟩, tyX8_ok, nmX8, rfl, rfl⟩
theorem fpRX9_322 : FpX RX9 322 0 5 .boolean := ⟨RX0, TX0, 6, tyX0, rfl, inT_0, by decide, rfl, Or.inr ⟨_, w_104⟩, tyX0_ok, nmX0, rfl, rfl⟩
theorem fpRX9_96 : FpX RX9 96 0 2 .int := ⟨RX0, TX0, 6, tyX0, rfl, inT_0, by decide, rfl, Or.inr ⟨_, w_95⟩, tyX0_ok, nmX0, rfl, rfl⟩
theorem fpRX9_99 : FpX RX9 99 0 3 .int := ⟨RX0, TX0, 6, tyX0, rfl, inT_0, by decide, rfl, Or.inr ⟨_, w_98⟩, tyX0_ok, nmX0, rfl, rfl⟩
