def St (T : Nat) (σ0 τ0 σ τ : Mem) (p q : Nat) : Prop := Tx T σ0 τ0 ∧ Fr σ0 τ0 σ τ ∧ Wrd T σ τ p q
def Sm (k l n : Nat) (σ τ : Mem) : Prop := ∃ x, x ≤ n ∧ σ 8 k = nI x ∧ τ 0 l = nI x
theorem Sm.cg {k l n : Nat} {σ τ σ' τ' : Mem} (h : Sm k l n σ τ) (h1 : σ' 8 k = σ 8 k) (h2 : τ' 0 l = τ 0 l) : Sm k l n σ' τ' := by
  obtain ⟨x, a, b, c⟩ := h
  exact ⟨x, a, by rw [h1]; exact b, by rw [h2]; exact c⟩
theorem St.tx {T p q : Nat} {σ0 τ0 σ τ : Mem} (h : St T σ0 τ0 σ τ p q) : Tx T σ τ := h.1.fr h.2.1
theorem St.next {T p q : Nat} {σ0 τ0 σ τ : Mem} (h : St T σ0 τ0 σ τ p q) : ∃ σ' τ' p' q', fX4_toNextWord σ = some σ' ∧ fX10_next τ = some τ' ∧ St T σ0 τ0 σ' τ' p' q' ∧ (∀ k, 3 ≤ k → σ' 8 k = σ 8 k) ∧ (∀ k, 35 ≤ k → τ' 0 k = τ 0 k) := by
  obtain ⟨h1, h2, h3⟩ := h
  obtain ⟨w1, w2, w3, w4, w5, w6, w7, w8⟩ := h3
  obtain ⟨σ', τ', p', q', g1, g2, g3, g4, g5, g6⟩ := next_both (h1.fr h2) w2 w4 w5
  exact ⟨σ', τ', p', q', g1, g2, ⟨h1, h2.tr g4, g3⟩, fun k hk => g5 k (by omega) (by omega), fun k hk => g6 k (by omega) (by omega) (by omega)⟩
theorem St.setX {T p q k : Nat} {v : Int32} {σ0 τ0 σ τ : Mem} (h : St T σ0 τ0 σ τ p q) (hk : 3 ≤ k) : St T σ0 τ0 (mset σ 8 k v) τ p q := ⟨h.1, h.2.1.setX, h.2.2.setX hk⟩
theorem St.setM {T p q l : Nat} {v : Int32} {σ0 τ0 σ τ : Mem} (h : St T σ0 τ0 σ τ p q) (hl : 35 ≤ l) : St T σ0 τ0 σ (mset τ 0 l v) p q := ⟨h.1, h.2.1.setM (by omega), h.2.2.setM hl⟩
theorem St.here {T p q : Nat} {σ0 τ0 σ τ : Mem} (h : St T σ0 τ0 σ τ p q) : fX10_here τ = nI p ∧ p ≤ 48 ∧ σ 8 1 = nI p := by
  have ht := h.tx
  obtain ⟨-, -, h3⟩ := h
  obtain ⟨w1, w2, w3, w4, w5, w6, w7, w8⟩ := h3
  obtain ⟨t1, t2, t3, t4⟩ := ht
  refine ⟨?_, by omega, w3⟩
  unfold fX10_here
  rw [w7, w6, t2]
  have f : (nI (q - p) = (0 : Int32)) = (q - p = 0) := eqN (b := 0) (by omega) (by omega)
  simp only [f]
  by_cases c : q - p = 0
  · rw [if_pos c, w8 (by omega)]
  · rw [if_neg c]
def Fin' (A : Nat) (σ0 τ0 : Mem) (a b : Option (Int32 × Mem)) : Prop := ∃ zc σ' zm τ', a = some (zc, σ') ∧ b = some (zm, τ') ∧ Fr σ0 τ0 σ' τ' ∧ ((zc = 0 ∧ ∃ p, p ≤ 48 ∧ σ' 8 1 = nI p ∧ zm = nI p) ∨ (zc = 1 ∧ zm = -1 ∧ Sm 3 35 9999 σ' τ' ∧ Sm 4 36 (3 + A) σ' τ' ∧ Sm 5 37 200 σ' τ' ∧ Sm 6 38 200 σ' τ' ∧ Sm 7 39 1 σ' τ'))
theorem Fin'.bad {A T p q : Nat} {σ0 τ0 σ τ : Mem} (h : St T σ0 τ0 σ τ p q) : Fin' A σ0 τ0 (some (0, σ)) (some (fX10_here τ, τ)) := by
  obtain ⟨h1, h2, h3⟩ := h.here
  exact ⟨0, σ, _, τ, rfl, rfl, h.2.1, Or.inl ⟨rfl, p, h2, h3, h1⟩⟩
/-- what the class does with the years read -/
def K2 (z : Int32 × Mem) : Option (Int32 × Mem) := if z.1 = 0 then some (0, z.2) else if z.2 8 1 = z.2 6 1 then some (1, z.2) else some (0, z.2)
def K1 (v : Int32) (z : Int32 × Mem) : Option (Int32 × Mem) := if z.1 = 0 then some (0, z.2) else bo (fX4_areYearsRead z.2 v) K2
theorem g257 {A T p q : Nat} {σ0 τ0 σ τ : Mem} (h : St T σ0 τ0 σ τ p q) (h3 : Sm 3 35 9999 σ τ) (h4 : Sm 4 36 (3 + A) σ τ) (h5 : Sm 5 37 200 σ τ) (h6 : Sm 6 38 200 σ τ) (h7 : Sm 7 39 1 σ τ) : Fin' A σ0 τ0 (K2 (1, σ)) (fX10_readGift_257 τ) := by
  have ht := h.tx
  have hh := h.here
  have h00 := h
  obtain ⟨-, -, hw⟩ := h
  obtain ⟨w1, w2, w3, w4, w5, w6, w7, w8⟩ := hw
  obtain ⟨t1, t2, t3, t4⟩ := ht
  unfold K2 fX10_readGift_257
  have f : (nI (q - p) = (0 : Int32)) = (q - p = 0) := eqN (b := 0) (by omega) (by omega)
  have f2 : (nI p = nI T) = (p = T) := eqN (by omega) (by omega)
  simp only [z10, if_false, w3, w6, w7, t1, f, f2]
  by_cases c : p = T
  · rw [if_pos c, if_pos (show q - p = 0 by omega)]
    exact ⟨1, σ, -1, τ, rfl, rfl, h00.2.1, Or.inr ⟨rfl, rfl, h3, h4, h5, h6, h7⟩⟩
  · rw [if_neg c, if_neg (show ¬ q - p = 0 from fun e => c (w8 (by omega)))]
    exact ⟨0, σ, nI p, τ, rfl, rfl, h00.2.1, Or.inl ⟨rfl, p, hh.2.1, w3, rfl⟩⟩
set_option maxHeartbeats 1000000 in
theorem g236 {A T p q : Nat} {σ0 τ0 σ τ : Mem} (h : St T σ0 τ0 σ τ p q) (h3 : Sm 3 35 9999 σ τ) (h4 : Sm 4 36 (3 + A) σ τ) (h5 : Sm 5 37 200 σ τ) (h6 : Sm 6 38 200 σ τ) (h7 : τ 0 39 = 0) : Fin' A σ0 τ0 (bo (fX4_areYearsRead_97 σ) K2) (fX10_readGift_236 τ) := by
  unfold fX4_areYearsRead_97 fX10_readGift_236 fX4_areYearsRead_112
  obtain ⟨r, e1, e2, e3⟩ := wd8 h.tx h.2.2
  rw [e1, e2, boS, boS]
  rcases e3 with rfl | ⟨rfl, -⟩
  · rw [if_pos rfl, if_pos rfl, bmE, mg_e, if_neg (by decide), boS]
    exact g257 (h.setX (by omega)) (h3.cg (mg_k (by omega)) rfl) (h4.cg (mg_k (by omega)) rfl) (h5.cg (mg_k (by omega)) rfl) (h6.cg (mg_k (by omega)) rfl) ⟨0, by omega, mg_e, h7⟩
  · rw [if_neg (by decide), if_neg (by decide), bmE, mg_e, if_pos rfl, bmE]
    obtain ⟨σ', τ', p', q', n1, n2, n3, n4, n5⟩ := ((h.setX (k := 7) (v := 1) (by omega)).setM (l := 39) (v := 1) (by omega)).next
    rw [n1, n2, boS, boS, boS]
    refine g257 n3 (h3.cg ?_ ?_) (h4.cg ?_ ?_) (h5.cg ?_ ?_) (h6.cg ?_ ?_) ⟨1, by omega, by rw [n4 7 (by omega)]; exact mg_e, by rw [n5 39 (by omega)]; exact mg_e⟩
    all_goals first | (rw [n4 _ (by omega), mg_k (by omega)]) | (rw [n5 _ (by omega), mg_k (by omega)])
theorem g187 {A T p q : Nat} {σ0 τ0 σ τ : Mem} (h : St T σ0 τ0 σ τ p q) (h3 : Sm 3 35 9999 σ τ) (h4 : Sm 4 36 (3 + A) σ τ) (h5 : Sm 5 37 200 σ τ) (h6 : Sm 6 38 200 σ τ) (h7 : τ 0 39 = 0) : Fin' A σ0 τ0 (bo (fX4_areYearsRead_53 σ) K2) (fX10_readGift_187 τ) := by
  unfold fX4_areYearsRead_53 fX10_readGift_187
  obtain ⟨r, e1, e2, e3⟩ := wd7 h.tx h.2.2
  rw [e1, e2, boS, boS]
  rcases e3 with rfl | ⟨rfl, -⟩
  · rw [if_pos rfl, if_pos rfl]
    exact g236 h h3 h4 h5 h6 h7
  · rw [if_neg (by decide), if_neg (by decide)]
    obtain ⟨σ', τ', p', q', n1, n2, n3, n4, n5⟩ := h.next
    obtain ⟨a, b, m1, m2, m3⟩ := num_both n3.tx n3.2.2
    obtain ⟨f, hf, f1, f2⟩ := h5
    rw [n1, n2, boS, boS, m1, m2, boS, boS, bmE, bmE, mg_e, mg_e, mg_k (show (5 : Nat) ≠ 6 by omega), mg_k (show (37 : Nat) ≠ 38 by omega), n4 5 (by omega), n5 37 (by omega), f1, f2]
    have n6 := (n3.setX (k := 6) (v := a) (by omega)).setM (l := 38) (v := b) (by omega)
    rcases num_win m3 (lo := nI f) (hi := 200) (l := f) (m := 200) rfl rfl (by omega) (by omega) (mset σ' 8 6 a) (mset τ' 0 38 b) with ⟨c1, c2⟩ | ⟨k, k1, k2, rfl, rfl, c1, c2⟩
    · rw [c1, c2, if_pos rfl, if_pos rfl, boS]
      unfold K2
      rw [if_pos rfl]
      exact Fin'.bad n6
    · rw [c1, c2, if_neg (by decide), if_neg (by decide)]
      obtain ⟨σ2, τ2, p2, q2, o1, o2, o3, o4, o5⟩ := n6.next
      rw [o1, o2, boS, boS]
      refine g236 o3 (h3.cg ?_ ?_) (h4.cg ?_ ?_) ⟨f, hf, ?_, ?_⟩ ⟨k, k2, ?_, ?_⟩ ?_
      · rw [o4 _ (by omega), mg_k (by omega), n4 _ (by omega)]
      · rw [o5 _ (by omega), mg_k (by omega), n5 _ (by omega)]
      · rw [o4 _ (by omega), mg_k (by omega), n4 _ (by omega)]
      · rw [o5 _ (by omega), mg_k (by omega), n5 _ (by omega)]
      · rw [o4 _ (by omega), mg_k (by omega), n4 _ (by omega)]; exact f1
      · rw [o5 _ (by omega), mg_k (by omega), n5 _ (by omega)]; exact f2
      · rw [o4 _ (by omega)]; exact mg_e
      · rw [o5 _ (by omega)]; exact mg_e
      · rw [o5 _ (by omega), mg_k (by omega), n5 _ (by omega)]; exact h7
theorem g117 {A T p q Y : Nat} {σ0 τ0 σ τ : Mem} (h : St T σ0 τ0 σ τ p q) (hY : Y ≤ 200) (ey : τ0 0 0 = nI Y) (h3 : Sm 3 35 9999 σ τ) (h4 : Sm 4 36 (3 + A) σ τ) : Fin' A σ0 τ0 (bo (fX4_isEndRead_111 σ) (K1 (nI Y))) (fX10_readGift_117 τ) := by
  unfold fX4_isEndRead_111 fX10_readGift_117
  have ey' : τ 0 0 = nI Y := by rw [h.2.1.2.2 0 (by omega)]; exact ey
  obtain ⟨σ', τ', p', q', n1, n2, n3, n4, n5⟩ := (((h.setM (l := 37) (v := nI Y) (by omega)).setM (l := 38) (v := 200) (by omega)).setM (l := 39) (v := 0) (by omega)).next
  rw [bmE, bmE, bmE, ey', n1, n2, boS, boS, boS]
  unfold K1
  rw [if_neg (show ¬ (1 : Int32) = 0 by decide)]
  unfold fX4_areYearsRead
  rw [bmE, bmE]
  have n6 := (n3.setX (k := 5) (v := nI Y) (by omega)).setX (k := 6) (v := 200) (by omega)
  have x5 : mset (mset σ' 8 5 (nI Y)) 8 6 200 8 5 = nI Y := by rw [mg_k (by omega), mg_e]
  have x6 : mset (mset σ' 8 5 (nI Y)) 8 6 200 8 6 = 200 := mg_e
  have x3 : mset (mset σ' 8 5 (nI Y)) 8 6 200 8 3 = σ 8 3 := by rw [mg_k (by omega), mg_k (by omega), n4 _ (by omega)]
  have x4 : mset (mset σ' 8 5 (nI Y)) 8 6 200 8 4 = σ 8 4 := by rw [mg_k (by omega), mg_k (by omega), n4 _ (by omega)]
  have y37 : τ' 0 37 = nI Y := by rw [n5 _ (by omega), mg_k (by omega), mg_k (by omega), mg_e]
  have y38 : τ' 0 38 = 200 := by rw [n5 _ (by omega), mg_k (by omega), mg_e]
  have y39 : τ' 0 39 = 0 := by rw [n5 _ (by omega), mg_e]
  have y35 : τ' 0 35 = τ 0 35 := by rw [n5 _ (by omega), mg_k (by omega), mg_k (by omega), mg_k (by omega)]
  have y36 : τ' 0 36 = τ 0 36 := by rw [n5 _ (by omega), mg_k (by omega), mg_k (by omega), mg_k (by omega)]
  obtain ⟨m, hm⟩ : ∃ m, m = mset (mset σ' 8 5 (nI Y)) 8 6 200 := ⟨_, rfl⟩
  dsimp only
  rw [← hm] at n6 x5 x6 x3 x4 ⊢
  obtain ⟨r, e1, e2, e3⟩ := wd6 n6.tx n6.2.2
  rw [e1, e2, boS, boS]
  rcases e3 with rfl | ⟨rfl, -⟩
  · rw [if_pos rfl, if_pos rfl]
    exact g187 n6 (h3.cg x3 y35) (h4.cg x4 y36) ⟨Y, hY, x5, y37⟩ ⟨200, by omega, x6, y38⟩ y39
  · rw [if_neg (by decide), if_neg (by decide)]
    obtain ⟨σ2, τ2, p2, q2, o1, o2, o3, o4, o5⟩ := n6.next
    obtain ⟨a, b, m1, m2, m3⟩ := num_both o3.tx o3.2.2
    rw [o1, o2, boS, boS, m1, m2, boS, boS, bmE, bmE, mg_e, mg_e]
    have n7 := (o3.setX (k := 5) (v := a) (by omega)).setM (l := 37) (v := b) (by omega)
    rcases num_win m3 (lo := 0) (hi := 200) (l := 0) (m := 200) rfl rfl (by omega) (by omega) (mset σ2 8 5 a) (mset τ2 0 37 b) with ⟨c1, c2⟩ | ⟨k, k1, k2, rfl, rfl, c1, c2⟩
    · rw [c1, c2, if_pos rfl, if_pos rfl, boS]
      unfold K2
      rw [if_pos rfl]
      exact Fin'.bad n7
    · rw [c1, c2, if_neg (by decide), if_neg (by decide)]
      obtain ⟨σ3, τ3, p3, q3, u1, u2, u3, u4, u5⟩ := n7.next
      rw [u1, u2, boS, boS]
      refine g187 u3 (h3.cg ?_ ?_) (h4.cg ?_ ?_) ⟨k, k2, ?_, ?_⟩ ⟨200, by omega, ?_, ?_⟩ ?_
      · rw [u4 _ (by omega), mg_k (by omega), o4 _ (by omega)]; exact x3
      · rw [u5 _ (by omega), mg_k (by omega), o5 _ (by omega)]; exact y35
      · rw [u4 _ (by omega), mg_k (by omega), o4 _ (by omega)]; exact x4
      · rw [u5 _ (by omega), mg_k (by omega), o5 _ (by omega)]; exact y36
      · rw [u4 _ (by omega)]; exact mg_e
      · rw [u5 _ (by omega)]; exact mg_e
      · rw [u4 _ (by omega), mg_k (by omega), o4 _ (by omega)]; exact x6
      · rw [u5 _ (by omega), mg_k (by omega), o5 _ (by omega)]; exact y38
      · rw [u5 _ (by omega), mg_k (by omega), o5 _ (by omega)]; exact y39
set_option maxHeartbeats 1000000 in
theorem gend {A T p q Y : Nat} {σ0 τ0 σ τ : Mem} (h : St T σ0 τ0 σ τ p q) (hY : Y ≤ 200) (ey : τ0 0 0 = nI Y) (hA : A ≤ 10) (ea : τ0 0 1 = nI A) (h3 : Sm 3 35 9999 σ τ) : Fin' A σ0 τ0 (bo (fX4_isEndRead σ (nI A)) (K1 (nI Y))) (bo (fX10_endOf τ) (fun z6 => bm (mset τ 0 36 z6) (fun m3 => if 0 ≤ m3 0 36 then (if m3 0 36 = 4 then (bo (fX10_next m3) (fun z7 => bo (fX10_number z7) (fun z8 => if fX10_isArch z7 z8 = 0 then (some (fX10_here z7, z7)) else (bm (mset z7 0 36 (4 + z8)) (fun m4 => fX10_readGift_117 m4))))) else (fX10_readGift_117 m3)) else (some (fX10_here m3, m3))))) := by
  unfold fX4_isEndRead fX10_endOf
  obtain ⟨r1, a1, b1, c1⟩ := wd1 h.tx h.2.2
  obtain ⟨r2, a2, b2, c2⟩ := wd2 h.tx h.2.2
  obtain ⟨r3, a3, b3, c3⟩ := wd3 h.tx h.2.2
  obtain ⟨r4, a4, b4, c4⟩ := wd4 h.tx h.2.2
  obtain ⟨r5, a5, b5, c5⟩ := wd5 h.tx h.2.2
  have hno : ∀ e : Nat, e ≤ 3 → Fin' A σ0 τ0 (bo (fX4_isEndRead_111 (mset σ 8 4 (nI e))) (K1 (nI Y))) (fX10_readGift_117 (mset τ 0 36 (nI e))) := fun e he => g117 ((h.setX (by omega)).setM (by omega)) hY ey (h3.cg (mg_k (by omega)) (mg_k (by omega))) ⟨e, by omega, mg_e, mg_e⟩
  simp only [a1, a2, a3, a4, a5, b1, b2, b3, b4, b5, boS]
  rcases c1 with rfl | ⟨rfl, l1, d1⟩
  · simp only [if_true]
    rcases c2 with rfl | ⟨rfl, l2, d2⟩
    · simp only [if_true]
      rcases c3 with rfl | ⟨rfl, l3, d3⟩
      · simp only [if_true]
        rcases c4 with rfl | ⟨rfl, l4, d4⟩
        · simp only [if_true]
          rcases c5 with rfl | ⟨rfl, l5, d5⟩
          · simp only [if_true, boS, bmE, mg_e, show ¬ (0 : Int32) ≤ -1 by decide, if_false]
            unfold K1
            simp only [if_true]
            exact Fin'.bad (h.setM (by omega))
          · simp only [z10, if_false, boS, bmE, mg_e, show (0 : Int32) ≤ 3 by decide, show ¬ (3 : Int32) = 4 by decide, if_true]
            exact hno 3 (by omega)
        · simp only [z10, if_false, boS, bmE, mg_e, show (0 : Int32) ≤ 2 by decide, show ¬ (2 : Int32) = 4 by decide, if_true]
          exact hno 2 (by omega)
      · simp only [z10, if_false, boS, bmE, mg_e, show (0 : Int32) ≤ 1 by decide, show ¬ (1 : Int32) = 4 by decide, if_true]
        exact hno 1 (by omega)
    · simp only [z10, if_false, boS, bmE, mg_e, show (0 : Int32) ≤ 0 by decide, show ¬ (0 : Int32) = 4 by decide, if_true]
      exact hno 0 (by omega)
  · have n2 : r2 = 0 := by
      rcases c2 with e | ⟨-, l2, d2⟩
      · exact e
      · omega
    have n3 : r3 = 0 := by
      rcases c3 with e | ⟨-, l2, d2⟩
      · exact e
      · omega
    have n5 : r5 = 0 := by
      rcases c5 with e | ⟨-, l2, d2⟩
      · exact e
      · omega
    have n4 : r4 = 0 := by
      rcases c4 with e | ⟨-, l2, d2⟩
      · exact e
      · have e1 := d1 0 (by omega)
        have e2 := d2 0 (by omega)
        rw [e1] at e2
        exact absurd e2 (by decide +kernel)
    subst n2; subst n3; subst n4; subst n5
    simp only [if_true, z10, if_false, boS, bmE, mg_e, show (0 : Int32) ≤ 4 by decide]
    obtain ⟨σ', τ', p', q', n1, n2, n3, n4, n5⟩ := (h.setM (l := 36) (v := 4) (by omega)).next
    obtain ⟨a, b, m1, m2, m3⟩ := num_both n3.tx n3.2.2
    rw [n1, n2, boS, boS, m1, m2, boS, boS]
    rcases num_arch m3 hA σ' τ' (by rw [n3.2.1.2.2 1 (by omega)]; exact ea) with ⟨c1, c2⟩ | ⟨k, k1, rfl, rfl, c1, c2⟩
    · rw [c1, c2, if_pos rfl, if_pos rfl, boS]
      unfold K1
      rw [if_pos rfl]
      exact Fin'.bad n3
    · have e4 : (4 : Int32) + nI k = nI (4 + k) := nI_add 4 k
      rw [c1, c2, if_neg (by decide), if_neg (by decide), e4]
      refine g117 ((n3.setX (by omega)).setM (by omega)) hY ey (h3.cg ?_ ?_) ⟨4 + k, by omega, mg_e, mg_e⟩
      · rw [mg_k (by omega), n4 _ (by omega)]
      · rw [mg_k (by omega), n5 _ (by omega), mg_k (by omega)]
theorem gread {A T Y : Nat} {σ τ : Mem} (ht : Tx T σ τ) (hY : Y ≤ 200) (ey : τ 0 0 = nI Y) (hA : A ≤ 10) (ea : τ 0 1 = nI A) : Fin' A σ τ (fX4_isGift σ (nI A) (nI Y)) (fX10_readGift τ) := by
  unfold fX4_isGift fX10_readGift
  have hT := ht.2.2.2
  obtain ⟨σ', τ', p', q', n1, n2, n3, n4, n5, n6⟩ := next_both (q := 0) (ht.fr ((Fr.rfl'.setX (k := 2) (v := 0)).setM (l := 32) (w := 0) (by omega))) (by omega) mg_e mg_e
  have st : St T σ τ σ' τ' p' q' := ⟨ht, ((Fr.rfl'.setX (k := 2) (v := 0)).setM (l := 32) (w := 0) (by omega)).tr n4, n3⟩
  obtain ⟨a, b, m1, m2, m3⟩ := num_both st.tx st.2.2
  rw [bmE, bmE, n1, n2, boS, boS, m1, m2, boS, boS, bmE, bmE, mg_e, mg_e]
  have s1 := (st.setX (k := 3) (v := a) (by omega)).setM (l := 35) (v := b) (by omega)
  rcases num_win m3 (lo := 1) (hi := 9999) (l := 1) (m := 9999) rfl rfl (by omega) (by omega) (mset σ' 8 3 a) (mset τ' 0 35 b) with ⟨c1, c2⟩ | ⟨k, k1, k2, rfl, rfl, c1, c2⟩
  · rw [c1, c2, if_pos rfl, if_pos rfl]
    exact Fin'.bad s1
  · rw [c1, c2, if_neg (by decide), if_neg (by decide)]
    obtain ⟨σ2, τ2, p2, q2, o1, o2, o3, o4, o5⟩ := s1.next
    obtain ⟨r, a1, b1, d1⟩ := wd0 o3.tx o3.2.2
    rw [o1, o2, boS, boS, a1, b1, boS, boS]
    rcases d1 with rfl | ⟨rfl, -⟩
    · rw [if_pos rfl, if_pos rfl]
      exact Fin'.bad o3
    · rw [if_neg (by decide), if_neg (by decide)]
      obtain ⟨σ3, τ3, p3, q3, u1, u2, u3, u4, u5⟩ := o3.next
      rw [u1, u2, boS, boS]
      refine gend u3 hY ey hA ea ⟨k, k2, ?_, ?_⟩
      · rw [u4 _ (by omega), o4 _ (by omega)]; exact mg_e
      · rw [u5 _ (by omega), o5 _ (by omega)]; exact mg_e
