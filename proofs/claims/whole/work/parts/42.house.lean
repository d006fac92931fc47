/-- the class's objects as its constructor leaves them, in the order of their coming -/
def BX (cy : Nat → ClassId) (ad : Nat → Nat) (j : Nat) : va_E :=
  if j = 1 then .inr (2, [.ref (ad 2), .int 0]) else if j = 2 then .inl (cy 14, 10, qf (rwf ad 3 1 10)) else if j < 13 then .inr (0, [.int 0, .int 0, .int 0, .int 0, .int 0, .int 0])
  else if j = 13 then .inr (2, [.ref (ad 14), .int 0]) else if j = 14 then .inl (cy 14, 10, qf (rwf ad 15 1 10)) else if j < 25 then .inr (0, [.int 0, .int 0, .int 0, .int 0, .int 0, .int 0])
  else if j = 25 then .inl (cy 16, 4, qf (rwf ad 76 2 4)) else if j = 26 then .inr (8, [.ref (ad 27), .int 0]) else if j = 27 then .inl (cy 11, 48, .inl (fun _ => 0))
  else if j = 28 then .inr (4, [.ref (ad 26), .int 0, .int 0, .int 0, .int 0, .int 0, .int 0, .int 0]) else if j = 29 then .inr (3, [.ref (ad 30), .int 1]) else if j = 30 then .inl (cy 15, 20, qf (rwf ad 31 2 20))
  else if j < 71 then (if j % 2 = 1 then .inr (5, [.ref (ad (j + 1)), .int 0, .int 0, .int (if j = 31 then 200 else 0), .int 0, .int 0, .int 0, .int 0, .int 0]) else .inl (cy 12, 12, .inl (fun _ => 0)))
  else if j = 71 then .inr (1, [.ref (ad 72), .int 0, .int 0]) else if j = 72 then .inl (cy 12, 800, .inl (fun _ => 0)) else if j = 73 then .inr (6, [.ref (ad 74)]) else if j = 74 then .inl (cy 12, 1407, .inl (fun _ => 0))
  else if j = 75 then .inl (cy 12, 6, .inl (fun _ => 0)) else if j % 2 = 0 then .inr (7, [.ref (ad (j + 1)), .int 1, .int 0, .int 0]) else .inl (cy 12, 200, .inl (fun _ => 0))
theorem BX_a {cy : Nat → ClassId} {ad : Nat → Nat} {j : Nat} (h1 : 3 ≤ j) (h2 : j < 13) : BX cy ad j = .inr (0, [.int 0, .int 0, .int 0, .int 0, .int 0, .int 0]) := by
  unfold BX; rw [if_neg (by omega), if_neg (by omega), if_pos (by omega)]
theorem BX_b {cy : Nat → ClassId} {ad : Nat → Nat} {j : Nat} (h1 : 15 ≤ j) (h2 : j < 25) : BX cy ad j = .inr (0, [.int 0, .int 0, .int 0, .int 0, .int 0, .int 0]) := by
  unfold BX; rw [if_neg (by omega), if_neg (by omega), if_neg (by omega), if_neg (by omega), if_neg (by omega), if_pos (by omega)]
theorem BX_p {cy : Nat → ClassId} {ad : Nat → Nat} {k : Nat} (h : k < 20) : BX cy ad (31 + 2 * k) = .inr (5, [.ref (ad (32 + 2 * k)), .int 0, .int 0, .int (if k = 0 then 200 else 0), .int 0, .int 0, .int 0, .int 0, .int 0]) ∧ BX cy ad (32 + 2 * k) = .inl (cy 12, 12, .inl (fun _ => 0)) := by
  refine ⟨?_, ?_⟩
  · unfold BX; rw [if_neg (by omega), if_neg (by omega), if_neg (by omega), if_neg (by omega), if_neg (by omega), if_neg (by omega), if_neg (by omega), if_neg (by omega), if_neg (by omega), if_neg (by omega), if_neg (by omega), if_neg (by omega), if_pos (by omega), if_pos (by omega)]
    have e : 31 + 2 * k + 1 = 32 + 2 * k := by omega
    rw [e]
    by_cases c : k = 0
    · rw [if_pos c, if_pos (by omega)]
    · rw [if_neg c, if_neg (by omega)]
  · unfold BX; rw [if_neg (by omega), if_neg (by omega), if_neg (by omega), if_neg (by omega), if_neg (by omega), if_neg (by omega), if_neg (by omega), if_neg (by omega), if_neg (by omega), if_neg (by omega), if_neg (by omega), if_neg (by omega), if_pos (by omega), if_neg (by omega)]
theorem BX_s {cy : Nat → ClassId} {ad : Nat → Nat} {k : Nat} : BX cy ad (76 + 2 * k) = .inr (7, [.ref (ad (77 + 2 * k)), .int 1, .int 0, .int 0]) ∧ BX cy ad (77 + 2 * k) = .inl (cy 12, 200, .inl (fun _ => 0)) := by
  refine ⟨?_, ?_⟩
  · unfold BX; rw [if_neg (by omega), if_neg (by omega), if_neg (by omega), if_neg (by omega), if_neg (by omega), if_neg (by omega), if_neg (by omega), if_neg (by omega), if_neg (by omega), if_neg (by omega), if_neg (by omega), if_neg (by omega), if_neg (by omega), if_neg (by omega), if_neg (by omega), if_neg (by omega), if_neg (by omega), if_neg (by omega), if_pos (by omega)]
    have e : 76 + 2 * k + 1 = 77 + 2 * k := by omega
    rw [e]
  · unfold BX; rw [if_neg (by omega), if_neg (by omega), if_neg (by omega), if_neg (by omega), if_neg (by omega), if_neg (by omega), if_neg (by omega), if_neg (by omega), if_neg (by omega), if_neg (by omega), if_neg (by omega), if_neg (by omega), if_neg (by omega), if_neg (by omega), if_neg (by omega), if_neg (by omega), if_neg (by omega), if_neg (by omega), if_neg (by omega)]
/-- how far the constructor has come -/
def stg (n : Nat) : Prop := n = 1 ∨ n = 13 ∨ n = 25 ∨ n = 26 ∨ n = 28 ∨ n = 29 ∨ n = 71 ∨ n = 73 ∨ n = 75 ∨ ∃ k, n = 76 + 2 * k
set_option maxHeartbeats 2000000 in
theorem BX_congr {cy : Nat → ClassId} {ad ad' : Nat → Nat} {n j : Nat} (hs : stg n) (h1 : 1 ≤ j) (h2 : j < n) (h3 : j ≠ 25) (h : ∀ x, x < n → ad' x = ad x) : BX cy ad j = BX cy ad' j := by
  unfold stg at hs
  have hn : (j < 13 → 13 ≤ n) ∧ (13 ≤ j → 25 ≤ n) ∧ (26 ≤ j → 28 ≤ n) ∧ (29 ≤ j → 71 ≤ n) ∧ (71 ≤ j → 73 ≤ n) ∧ (73 ≤ j → 75 ≤ n) ∧ (76 ≤ j → j % 2 = 0 → j + 1 < n) := by
    rcases hs with h | h | h | h | h | h | h | h | h | ⟨k, h⟩ <;> omega
  obtain ⟨n1, n2, n3, n4, n5, n6, n7⟩ := hn
  by_cases c1 : j = 1
  · subst c1; show _ = (.inr (2, [.ref (ad' 2), .int 0]) : va_E); rw [h 2 (by omega)]; rfl
  by_cases c2 : j = 2
  · subst c2; show _ = (.inl (cy 14, 10, qf (rwf ad' 3 1 10)) : va_E); rw [← rwf_congr (ad := ad) (fun k hk => h _ (by omega))]; rfl
  by_cases c3 : j < 13
  · rw [BX_a (by omega) c3, BX_a (by omega) c3]
  by_cases c4 : j = 13
  · subst c4; show _ = (.inr (2, [.ref (ad' 14), .int 0]) : va_E); rw [h 14 (by omega)]; rfl
  by_cases c5 : j = 14
  · subst c5; show _ = (.inl (cy 14, 10, qf (rwf ad' 15 1 10)) : va_E); rw [← rwf_congr (ad := ad) (fun k hk => h _ (by omega))]; rfl
  by_cases c6 : j < 25
  · rw [BX_b (by omega) c6, BX_b (by omega) c6]
  by_cases c7 : j = 26
  · subst c7; show _ = (.inr (8, [.ref (ad' 27), .int 0]) : va_E); rw [h 27 (by omega)]; rfl
  by_cases c8 : j = 27
  · subst c8; rfl
  by_cases c9 : j = 28
  · subst c9; show _ = (.inr (4, [.ref (ad' 26), .int 0, .int 0, .int 0, .int 0, .int 0, .int 0, .int 0]) : va_E); rw [h 26 (by omega)]; rfl
  by_cases c10 : j = 29
  · subst c10; show _ = (.inr (3, [.ref (ad' 30), .int 1]) : va_E); rw [h 30 (by omega)]; rfl
  by_cases c11 : j = 30
  · subst c11; show _ = (.inl (cy 15, 20, qf (rwf ad' 31 2 20)) : va_E); rw [← rwf_congr (ad := ad) (fun k hk => h _ (by omega))]; rfl
  by_cases c12 : j < 71
  · by_cases e : j % 2 = 1
    · have ej : j = 31 + 2 * ((j - 31) / 2) := by omega
      rw [ej, (BX_p (by omega)).1, (BX_p (by omega)).1, h _ (by omega)]
    · have ej : j = 32 + 2 * ((j - 32) / 2) := by omega
      rw [ej, (BX_p (by omega)).2, (BX_p (by omega)).2]
  by_cases c13 : j = 71
  · subst c13; show _ = (.inr (1, [.ref (ad' 72), .int 0, .int 0]) : va_E); rw [h 72 (by omega)]; rfl
  by_cases c14 : j = 72
  · subst c14; rfl
  by_cases c15 : j = 73
  · subst c15; show _ = (.inr (6, [.ref (ad' 74)]) : va_E); rw [h 74 (by omega)]; rfl
  by_cases c16 : j = 74
  · subst c16; rfl
  by_cases c17 : j = 75
  · subst c17; rfl
  by_cases e : j % 2 = 0
  · have ej : j = 76 + 2 * ((j - 76) / 2) := by omega
    have := n7 (by omega) e
    rw [ej, BX_s.1, BX_s.1, h _ (by omega)]
  · have ej : j = 77 + 2 * ((j - 77) / 2) := by omega
    rw [ej, BX_s.2, BX_s.2]
def SF (cy : Nat → ClassId) (n : Nat) (ad : Nat → Nat) (ce : Nat → va_E) : Prop := ∀ j, 1 ≤ j → j < n → j ≠ 25 → ce j = BX cy ad j
theorem SF.step {cy : Nat → ClassId} {n n' : Nat} {ad ad' : Nat → Nat} {ce ce' : Nat → va_E} (h : SF cy n ad ce) (hs : stg n) (h1 : ∀ x, x < n → ad' x = ad x) (h2 : ∀ j, 1 ≤ j → j < n → j ≠ 25 → ce' j = ce j) (h3 : ∀ j, n ≤ j → j < n' → j ≠ 25 → ce' j = BX cy ad' j) : SF cy n' ad' ce' := by
  intro j a b c
  by_cases e : j < n
  · rw [h2 j a e c, h j a e c]; exact BX_congr hs a e c h1
  · exact h3 j (by omega) b c
theorem v_300 : Cond.fieldLink RX9 21 RX9 "sheets" "[LBridgeHouse$Sheet;" ∈ TBL := mTi 300 (by decide +kernel) rfl
theorem fD_9_21 : FdX RX9 21 9 2 := ⟨RX9, TX9, 10, rfl, inT_9, by decide, rfl, Or.inl v_300⟩
theorem v_127 : Cond.classLink RX9 19 RX7 ∈ TBL := mTi 127 (by decide +kernel) rfl
theorem v_276 : Cond.instantiable RX7 4 ∈ TBL := mTi 276 (by decide +kernel) rfl
theorem v_60 : Cond.initialized RX7 ∈ TBL := mTi 60 (by decide +kernel) rfl
theorem v_277 : Cond.methodLinkNest RX9 66 yX7_init "BridgeHouse" ∈ NWL := mNi 277 (by decide +kernel) rfl
theorem v_279 : Cond.code yX7_init cX7_init 1 none ∈ TBL := mTi 279 (by decide +kernel) rfl
theorem v_278 : Cond.instanceMethod yX7_init ∈ TBL := mTi 278 (by decide +kernel) rfl
theorem lI_9_66 : LkI RX9 66 yX7_init qI7 0 := ⟨Or.inr ⟨_, v_277⟩, v_60, v_279, by decide +kernel, v_278, rfl⟩
def InvH (cy : Nat → ClassId) (a k : Nat) (ad : Nat → Nat) (ce : Nat → va_E) : Prop := SF cy (76 + 2 * k) ad ce ∧ ce 0 = .inr (9, [.ref (ad 1), .ref (ad 13), .ref (ad 25), .ref (ad 26), .ref (ad 28), .ref (ad 29), .ref (ad 71), .ref (ad 73), .ref (ad 75), .int 0]) ∧ ce 25 = .inl (cy 16, 4, qf (rwf ad 76 2 k)) ∧ ad 0 = a
set_option maxRecDepth 100000 in
set_option maxHeartbeats 2000000 in
theorem loopH {E : XB} {N0 : Nat} {Q : State → Prop} {a : Nat} (K : ∀ (ad : Nat → Nat) (ce : Nat → va_E), InvH E.2.2.2 a 4 ad ce → GB E qI9 N0 Q 83 3681 84 ad ce 127 [(1, .int (nI 4)), (0, .ref a)] []) : ∀ (f k : Nat) (ad : Nat → Nat) (ce : Nat → va_E), 4 - k < f → k ≤ 4 → InvH E.2.2.2 a k ad ce → GB E qI9 N0 Q (75 + 2 * k) (2865 + 204 * k) (76 + 2 * k) ad ce 103 [(1, .int (nI k)), (0, .ref a)] [] := by
  intro f
  induction f with
  | zero => intro k ad ce h; omega
  | succ f ih =>
    intro k ad ce hf hk hv
    have hv0 := hv
    obtain ⟨v1, v2, v3, v4⟩ := hv
    refine b_iload_n 0 dX9_init_103 rfl rfl ?_
    refine b_iconst (v := 4) dX9_init_104 (by decide) ?_
    refine b_icmp_ge 127 dX9_init_105 (by decide) (fun c => ?_) (fun c => ?_)
    · have e : k = 4 := by
        have c' : nI 4 ≤ nI k := c
        rw [leN (by omega) (by omega)] at c'; omega
      subst e
      exact K ad ce hv0
    · have hlt : k < 4 := by
        apply Nat.lt_of_not_le
        intro h
        apply c
        show nI 4 ≤ nI k
        rw [leN (by omega) (by omega)]; exact h
      refine b_aload_n 1 dX9_init_108 rfl rfl ?_
      refine b_get (i := 0) fD_9_21 (by omega) v4 v2 rfl dX9_init_109 ?_
      refine b_iload_n 0 dX9_init_112 rfl rfl ?_
      refine b_new (ci := 7) (N := 4) (fs := [.null, .int 0, .int 0, .int 0]) tyX7 inT_7 tyX7_ok v_127 v_276 v_60 rfl (by decide) ⟨by show 75 + 2 * k + 1 ≤ 83; omega, by show 2865 + 204 * k + 4 ≤ 3681; omega⟩ dX9_init_113 (fun a1 ad1 ce1 h1 h2 h3 h4 => ?_)
      refine b_dup dX9_init_116 rfl ?_
      refine b_init (rest := [.ref a1, .int (nI k), .ref (ad 25)]) (As := []) lI_9_66 (cI7 _ _ _ _ _ _ _ (76 + 2 * k) _ (by omega) h1 h3) ⟨Nat.le_of_ble_eq_true rfl, Nat.le_of_ble_eq_true rfl⟩ ⟨by show 75 + 2 * k + 1 + 1 ≤ 83; omega, by show 2865 + 204 * k + 4 + 200 ≤ 3681; omega⟩ rfl rfl (Nat.le_of_ble_eq_true rfl) dX9_init_117 (fun n2 ad2 ce2 hp => ?_)
      obtain ⟨rfl, p1, p2, p3, p4⟩ := hp
      have q1 : ∀ j, j < 76 + 2 * k → ad2 j = ad j := fun j hj => (p1 j (by omega)).trans (h2 j (by omega))
      have q2 : ∀ j, j < 76 + 2 * k → ce2 j = ce j := fun j hj => (p2 j (by omega) (by omega)).trans (h4 j (by omega))
      refine b_aast (k := 16) (ci := 7) (i := 25) (z := 76 + 2 * k) (Or.inr (Or.inr ⟨rfl, rfl⟩)) (by omega) (q1 25 (by omega)) ((q2 25 (by omega)).trans v3) (by omega) ((p1 _ (by omega)).trans h1) p3 (vp_in_nI hlt (by omega)) dX9_init_120 (fun ce3 g1 g2 => ?_)
      refine b_iinc (v := nI (k + 1)) 0 dX9_init_121 rfl (nIs k) (by decide) rfl ?_
      refine b_goto 103 dX9_init_124 (by decide) ?_
      have hn : 76 + 2 * k + 1 + 1 = 76 + 2 * (k + 1) := by omega
      have hcc : 75 + 2 * k + 1 + qI7.2.2.2.cells = 75 + 2 * (k + 1) := by show 75 + 2 * k + 1 + 1 = _; omega
      have hss : 2865 + 204 * k + 4 + qI7.2.2.2.slots = 2865 + 204 * (k + 1) := by show 2865 + 204 * k + 4 + 200 = _; omega
      rw [hn, hcc, hss]
      refine ih (k + 1) ad2 ce3 (by omega) (by omega) ⟨v1.step (Or.inr (Or.inr (Or.inr (Or.inr (Or.inr (Or.inr (Or.inr (Or.inr (Or.inr ⟨k, rfl⟩))))))))) q1 (fun j _ hj hne => ?_) (fun j h5 h6 h7 => ?_), ?_, ?_, (q1 0 (by omega)).trans v4⟩
      · rw [g2 j hne, q2 j hj]
      · rcases (show j = 76 + 2 * k ∨ j = 77 + 2 * k by omega) with rfl | rfl
        · rw [g2 _ (by omega), p3, BX_s.1, show 76 + 2 * k + 1 = 77 + 2 * k by omega]
        · rw [g2 _ (by omega), BX_s.2, show 77 + 2 * k = 76 + 2 * k + 1 by omega]; exact p4
      · rw [g2 0 (by omega), q2 0 (by omega), v2, q1 1 (by omega), q1 13 (by omega), q1 25 (by omega), q1 26 (by omega), q1 28 (by omega), q1 29 (by omega), q1 71 (by omega), q1 73 (by omega), q1 75 (by omega)]
      · rw [g1, cN (show k < 2 ^ 31 by omega), rwf_up (ad' := ad2) (fun x hx => q1 _ (by omega)) ((p1 _ (by omega)).trans h1)]
theorem v_73 : Cond.methodLink RX9 3 Lib.objectInit ∈ TBL := mTi 73 (by decide +kernel) rfl
theorem v_298 : Cond.fieldLink RX9 12 RX9 "bridge" "LBridgeHouse$Bridge;" ∈ TBL := mTi 298 (by decide +kernel) rfl
theorem fF_9_12 : FfX RX9 12 9 0 (.object "BridgeHouse$Bridge") := ⟨RX9, TX9, 10, tyX9, rfl, inT_9, by decide, rfl, v_298, tyX9_ok, nmX9, rfl, rfl, rfl⟩
theorem v_76 : Cond.classLink RX9 9 RX2 ∈ TBL := mTi 76 (by decide +kernel) rfl
theorem v_77 : Cond.instantiable RX2 2 ∈ TBL := mTi 77 (by decide +kernel) rfl
theorem v_52 : Cond.initialized RX2 ∈ TBL := mTi 52 (by decide +kernel) rfl
theorem v_78 : Cond.methodLink RX9 11 yX2_init ∈ TBL := mTi 78 (by decide +kernel) rfl
theorem v_80 : Cond.code yX2_init cX2_init 2 none ∈ TBL := mTi 80 (by decide +kernel) rfl
theorem v_79 : Cond.instanceMethod yX2_init ∈ TBL := mTi 79 (by decide +kernel) rfl
theorem lI_9_11 : LkI RX9 11 yX2_init qI2 0 := ⟨Or.inl v_78, v_52, v_80, by decide +kernel, v_79, rfl⟩
theorem v_299 : Cond.fieldLink RX9 16 RX9 "ahead" "LBridgeHouse$Bridge;" ∈ TBL := mTi 299 (by decide +kernel) rfl
theorem fF_9_16 : FfX RX9 16 9 1 (.object "BridgeHouse$Bridge") := ⟨RX9, TX9, 10, tyX9, rfl, inT_9, by decide, rfl, v_299, tyX9_ok, nmX9, rfl, rfl, rfl⟩
theorem fF_9_21 : FfX RX9 21 9 2 (.array (.object "BridgeHouse$Sheet")) := ⟨RX9, TX9, 10, tyX9, rfl, inT_9, by decide, rfl, v_300, tyX9_ok, nmX9, rfl, rfl, rfl⟩
theorem v_301 : Cond.fieldLink RX9 28 RX9 "tape" "LBridgeHouse$Tape;" ∈ TBL := mTi 301 (by decide +kernel) rfl
theorem fF_9_28 : FfX RX9 28 9 3 (.object "BridgeHouse$Tape") := ⟨RX9, TX9, 10, tyX9, rfl, inT_9, by decide, rfl, v_301, tyX9_ok, nmX9, rfl, rfl, rfl⟩
theorem v_129 : Cond.classLink RX9 25 RX8 ∈ TBL := mTi 129 (by decide +kernel) rfl
theorem v_130 : Cond.instantiable RX8 2 ∈ TBL := mTi 130 (by decide +kernel) rfl
theorem v_54 : Cond.initialized RX8 ∈ TBL := mTi 54 (by decide +kernel) rfl
theorem v_131 : Cond.methodLinkNest RX9 27 yX8_init "BridgeHouse" ∈ NWL := mNi 131 (by decide +kernel) rfl
theorem v_133 : Cond.code yX8_init cX8_init 1 none ∈ TBL := mTi 133 (by decide +kernel) rfl
theorem v_132 : Cond.instanceMethod yX8_init ∈ TBL := mTi 132 (by decide +kernel) rfl
theorem lI_9_27 : LkI RX9 27 yX8_init qI8 0 := ⟨Or.inr ⟨_, v_131⟩, v_54, v_133, by decide +kernel, v_132, rfl⟩
theorem v_302 : Cond.fieldLink RX9 37 RX9 "text" "LBridgeHouse$GiftText;" ∈ TBL := mTi 302 (by decide +kernel) rfl
theorem fF_9_37 : FfX RX9 37 9 4 (.object "BridgeHouse$GiftText") := ⟨RX9, TX9, 10, tyX9, rfl, inT_9, by decide, rfl, v_302, tyX9_ok, nmX9, rfl, rfl, rfl⟩
theorem v_146 : Cond.classLink RX9 32 RX4 ∈ TBL := mTi 146 (by decide +kernel) rfl
theorem v_147 : Cond.instantiable RX4 8 ∈ TBL := mTi 147 (by decide +kernel) rfl
theorem v_55 : Cond.initialized RX4 ∈ TBL := mTi 55 (by decide +kernel) rfl
theorem v_148 : Cond.methodLink RX9 34 yX4_init ∈ TBL := mTi 148 (by decide +kernel) rfl
theorem v_150 : Cond.code yX4_init cX4_init 2 none ∈ TBL := mTi 150 (by decide +kernel) rfl
theorem v_149 : Cond.instanceMethod yX4_init ∈ TBL := mTi 149 (by decide +kernel) rfl
theorem lI_9_34 : LkI RX9 34 yX4_init qI4 1 := ⟨Or.inl v_148, v_55, v_150, by decide +kernel, v_149, rfl⟩
theorem fD_9_28 : FdX RX9 28 9 3 := ⟨RX9, TX9, 10, rfl, inT_9, by decide, rfl, Or.inl v_301⟩
theorem v_303 : Cond.fieldLink RX9 44 RX9 "chest" "LBridgeHouse$Chest;" ∈ TBL := mTi 303 (by decide +kernel) rfl
theorem fF_9_44 : FfX RX9 44 9 5 (.object "BridgeHouse$Chest") := ⟨RX9, TX9, 10, tyX9, rfl, inT_9, by decide, rfl, v_303, tyX9_ok, nmX9, rfl, rfl, rfl⟩
theorem v_184 : Cond.classLink RX9 41 RX3 ∈ TBL := mTi 184 (by decide +kernel) rfl
theorem v_185 : Cond.instantiable RX3 2 ∈ TBL := mTi 185 (by decide +kernel) rfl
theorem v_56 : Cond.initialized RX3 ∈ TBL := mTi 56 (by decide +kernel) rfl
theorem v_186 : Cond.methodLink RX9 43 yX3_init ∈ TBL := mTi 186 (by decide +kernel) rfl
theorem v_188 : Cond.code yX3_init cX3_init 2 none ∈ TBL := mTi 188 (by decide +kernel) rfl
theorem v_187 : Cond.instanceMethod yX3_init ∈ TBL := mTi 187 (by decide +kernel) rfl
theorem lI_9_43 : LkI RX9 43 yX3_init qI3 0 := ⟨Or.inl v_186, v_56, v_188, by decide +kernel, v_187, rfl⟩
theorem v_304 : Cond.fieldLink RX9 51 RX9 "book" "LBridgeHouse$Book;" ∈ TBL := mTi 304 (by decide +kernel) rfl
theorem fF_9_51 : FfX RX9 51 9 6 (.object "BridgeHouse$Book") := ⟨RX9, TX9, 10, tyX9, rfl, inT_9, by decide, rfl, v_304, tyX9_ok, nmX9, rfl, rfl, rfl⟩
theorem v_249 : Cond.classLink RX9 48 RX1 ∈ TBL := mTi 249 (by decide +kernel) rfl
theorem v_250 : Cond.instantiable RX1 3 ∈ TBL := mTi 250 (by decide +kernel) rfl
theorem v_58 : Cond.initialized RX1 ∈ TBL := mTi 58 (by decide +kernel) rfl
theorem v_251 : Cond.methodLinkNest RX9 50 yX1_init "BridgeHouse" ∈ NWL := mNi 251 (by decide +kernel) rfl
theorem v_253 : Cond.code yX1_init cX1_init 1 none ∈ TBL := mTi 253 (by decide +kernel) rfl
theorem v_252 : Cond.instanceMethod yX1_init ∈ TBL := mTi 252 (by decide +kernel) rfl
theorem lI_9_50 : LkI RX9 50 yX1_init qI1 0 := ⟨Or.inr ⟨_, v_251⟩, v_58, v_253, by decide +kernel, v_252, rfl⟩
theorem v_305 : Cond.fieldLink RX9 58 RX9 "rolls" "LBridgeHouse$Rolls;" ∈ TBL := mTi 305 (by decide +kernel) rfl
theorem fF_9_58 : FfX RX9 58 9 7 (.object "BridgeHouse$Rolls") := ⟨RX9, TX9, 10, tyX9, rfl, inT_9, by decide, rfl, v_305, tyX9_ok, nmX9, rfl, rfl, rfl⟩
theorem v_266 : Cond.classLink RX9 55 RX6 ∈ TBL := mTi 266 (by decide +kernel) rfl
theorem v_267 : Cond.instantiable RX6 1 ∈ TBL := mTi 267 (by decide +kernel) rfl
theorem v_59 : Cond.initialized RX6 ∈ TBL := mTi 59 (by decide +kernel) rfl
theorem v_268 : Cond.methodLinkNest RX9 57 yX6_init "BridgeHouse" ∈ NWL := mNi 268 (by decide +kernel) rfl
theorem v_270 : Cond.code yX6_init cX6_init 1 none ∈ TBL := mTi 270 (by decide +kernel) rfl
theorem v_269 : Cond.instanceMethod yX6_init ∈ TBL := mTi 269 (by decide +kernel) rfl
theorem lI_9_57 : LkI RX9 57 yX6_init qI6 0 := ⟨Or.inr ⟨_, v_268⟩, v_59, v_270, by decide +kernel, v_269, rfl⟩
theorem v_306 : Cond.fieldLink RX9 62 RX9 "rules" "[I" ∈ TBL := mTi 306 (by decide +kernel) rfl
theorem fF_9_62 : FfX RX9 62 9 8 (.array .int) := ⟨RX9, TX9, 10, tyX9, rfl, inT_9, by decide, rfl, v_306, tyX9_ok, nmX9, rfl, rfl, rfl⟩
set_option maxRecDepth 100000 in
set_option maxHeartbeats 4000000 in
theorem cI9 (l : Launch) (D : va_G) (cy : Nat → ClassId) (N0 : Nat) (ad : Nat → Nat) (ce : Nat → va_E) (a : Nat) (ha : ad 0 = a) (he : ce 0 = .inr (9, [.null, .null, .null, .null, .null, .null, .null, .null, .null, .int 0])) : MB l D cy N0 yX9_init qI9 1 ad ce [.ref a] (fun cy n' ad' ce' => n' = 84 ∧ ad' 0 = a ∧ ce' 0 = .inr (9, [.ref (ad' 1), .ref (ad' 13), .ref (ad' 25), .ref (ad' 26), .ref (ad' 28), .ref (ad' 29), .ref (ad' 71), .ref (ad' 73), .ref (ad' 75), .int 0]) ∧ ∀ j, 1 ≤ j → j < 84 → ce' j = BX cy ad' j) := mb_of (by decide) rfl rfl (Nat.le_of_ble_eq_true rfl) (fun E hI hcy => by
  refine b_aload_n 0 dX9_init_0 rfl rfl ?_
  refine b_obj v_73 v_74 v_75 ⟨Nat.le_of_ble_eq_true rfl, Nat.le_of_ble_eq_true rfl⟩ dX9_init_1 ?_
  have hS_0 : SF E.2.2.2 1 ad ce := fun j h1 h2 => by omega
  have h0_0 := he
  have hA_0 := ha
  refine b_aload_n 0 dX9_init_4 rfl rfl ?_
  refine b_new (n := 1) (cells := 0) (slots := 0) (ci := 2) (N := 2) (fs := [.null, .int 0]) tyX2 inT_2 tyX2_ok v_76 v_77 v_52 rfl (by decide) ⟨Nat.le_of_ble_eq_true rfl, Nat.le_of_ble_eq_true rfl⟩ dX9_init_5 (fun a0 ad0a ce0a h1_0 h2_0 h3_0 h4_0 => ?_)
  refine b_dup dX9_init_8 rfl ?_
  refine b_init (n := 2) (cells := 1) (slots := 2) (rest := [.ref a0, .ref a]) (As := []) lI_9_11 (cI2 _ _ _ _ _ _ _ 1 _ (by omega) h1_0 h3_0) ⟨Nat.le_of_ble_eq_true rfl, Nat.le_of_ble_eq_true rfl⟩ ⟨Nat.le_of_ble_eq_true rfl, Nat.le_of_ble_eq_true rfl⟩ rfl rfl (Nat.le_of_ble_eq_true rfl) dX9_init_9 (fun n0 ad0b ce0b hp0 => ?_)
  obtain ⟨rfl, p1_0, p2_0, p3_0, p4_0, p5_0⟩ := hp0
  have q1_0 : ∀ x, x < 1 → ad0b x = ad x := fun x hx => (p1_0 x (by omega)).trans (h2_0 x (by omega))
  have q2_0 : ∀ x, x < 1 → ce0b x = ce x := fun x hx => (p2_0 x (by omega) (by omega)).trans (h4_0 x (by omega))
  have q3_0 : ad0b 1 = a0 := (p1_0 1 (by omega)).trans h1_0
  refine b_putF (n := 13) (cells := 12) (slots := 72) (i := 0) hI fF_9_12 (by omega) ((q1_0 0 (by omega)).trans hA_0) ((q2_0 0 (by omega)).trans h0_0) rfl rfl (Nat.le_of_ble_eq_true rfl) dX9_init_12 (fun ce0c g1_0 g2_0 => ?_)
  have hS_1 : SF E.2.2.2 13 ad0b ce0c := hS_0.step (Or.inl rfl) q1_0 (fun j _ hj _ => (g2_0 j (by omega)).trans (q2_0 j hj)) (fun j u1 u2 u3 => by
    rw [g2_0 j (by omega)]
    rcases (show j = 1 ∨ j = 2 ∨ (3 ≤ j ∧ j < 13) by omega) with rfl | rfl | ⟨w1, w2⟩
    · exact p3_0
    · exact p4_0
    · rw [BX_a w1 w2]
      have := p5_0 (j - 3) (by omega)
      rw [show 1 + 1 + 1 + (j - 3) = j by omega] at this
      exact this)
  have h0_1 : ce0c 0 = .inr (9, [.ref (ad0b 1), .null, .null, .null, .null, .null, .null, .null, .null, .int 0]) := by
    rw [g1_0, ← q3_0]; rfl
  have hA_1 : ad0b 0 = a := (q1_0 0 (by omega)).trans hA_0
  refine b_aload_n 0 dX9_init_15 rfl rfl ?_
  refine b_new (n := 13) (cells := 12) (slots := 72) (ci := 2) (N := 2) (fs := [.null, .int 0]) tyX2 inT_2 tyX2_ok v_76 v_77 v_52 rfl (by decide) ⟨Nat.le_of_ble_eq_true rfl, Nat.le_of_ble_eq_true rfl⟩ dX9_init_16 (fun a1 ad1a ce1a h1_1 h2_1 h3_1 h4_1 => ?_)
  refine b_dup dX9_init_19 rfl ?_
  refine b_init (n := 14) (cells := 13) (slots := 74) (rest := [.ref a1, .ref a]) (As := []) lI_9_11 (cI2 _ _ _ _ _ _ _ 13 _ (by omega) h1_1 h3_1) ⟨Nat.le_of_ble_eq_true rfl, Nat.le_of_ble_eq_true rfl⟩ ⟨Nat.le_of_ble_eq_true rfl, Nat.le_of_ble_eq_true rfl⟩ rfl rfl (Nat.le_of_ble_eq_true rfl) dX9_init_20 (fun n1 ad1b ce1b hp1 => ?_)
  obtain ⟨rfl, p1_1, p2_1, p3_1, p4_1, p5_1⟩ := hp1
  have q1_1 : ∀ x, x < 13 → ad1b x = ad0b x := fun x hx => (p1_1 x (by omega)).trans (h2_1 x (by omega))
  have q2_1 : ∀ x, x < 13 → ce1b x = ce0c x := fun x hx => (p2_1 x (by omega) (by omega)).trans (h4_1 x (by omega))
  have q3_1 : ad1b 13 = a1 := (p1_1 13 (by omega)).trans h1_1
  refine b_putF (n := 25) (cells := 24) (slots := 144) (i := 0) hI fF_9_16 (by omega) ((q1_1 0 (by omega)).trans hA_1) ((q2_1 0 (by omega)).trans h0_1) rfl rfl (Nat.le_of_ble_eq_true rfl) dX9_init_23 (fun ce1c g1_1 g2_1 => ?_)
  have hS_2 : SF E.2.2.2 25 ad1b ce1c := hS_1.step (Or.inr (Or.inl rfl)) q1_1 (fun j _ hj _ => (g2_1 j (by omega)).trans (q2_1 j hj)) (fun j u1 u2 u3 => by
    rw [g2_1 j (by omega)]
    rcases (show j = 13 ∨ j = 14 ∨ (15 ≤ j ∧ j < 25) by omega) with rfl | rfl | ⟨w1, w2⟩
    · exact p3_1
    · exact p4_1
    · rw [BX_b w1 w2]
      have := p5_1 (j - 15) (by omega)
      rw [show 13 + 1 + 1 + (j - 15) = j by omega] at this
      exact this)
  have h0_2 : ce1c 0 = .inr (9, [.ref (ad1b 1), .ref (ad1b 13), .null, .null, .null, .null, .null, .null, .null, .int 0]) := by
    rw [g1_1, ← q1_1 1 (by omega), ← q3_1]; rfl
  have hA_2 : ad1b 0 = a := (q1_1 0 (by omega)).trans hA_1
  refine b_aload_n 0 dX9_init_26 rfl rfl ?_
  refine b_iconst (v := 4) dX9_init_27 (by decide) ?_
  refine b_newq (n := 25) (cells := 24) (slots := 144) (k := 16) (N := 4) (Or.inr (Or.inr rfl)) v_127 (by decide) (by decide) (by decide) ⟨Nat.le_of_ble_eq_true rfl, Nat.le_of_ble_eq_true rfl⟩ dX9_init_28 (fun a2 ad2b ce2b h1_2 h2_2 h3_2 h4_2 => ?_)
  have q1_2 : ∀ x, x < 25 → ad2b x = ad1b x := fun x hx => h2_2 x (by omega)
  have q2_2 : ∀ x, x < 25 → ce2b x = ce1c x := fun x hx => h4_2 x (by omega)
  refine b_putF (n := 26) (cells := 25) (slots := 148) (i := 0) hI fF_9_21 (by omega) ((q1_2 0 (by omega)).trans hA_2) ((q2_2 0 (by omega)).trans h0_2) rfl rfl (Nat.le_of_ble_eq_true rfl) dX9_init_31 (fun ce2c g1_2 g2_2 => ?_)
  have hS_3 : SF E.2.2.2 26 ad2b ce2c := hS_2.step (Or.inr (Or.inr (Or.inl rfl))) q1_2 (fun j _ hj _ => (g2_2 j (by omega)).trans (q2_2 j hj)) (fun j u1 u2 u3 => by omega)
  have h0_3 : ce2c 0 = .inr (9, [.ref (ad2b 1), .ref (ad2b 13), .ref (ad2b 25), .null, .null, .null, .null, .null, .null, .int 0]) := by
    rw [g1_2, ← q1_2 1 (by omega), ← q1_2 13 (by omega), ← h1_2]; rfl
  have hA_3 : ad2b 0 = a := (q1_2 0 (by omega)).trans hA_2
  have h25_3 : ce2c 25 = .inl (E.2.2.2 16, 4, qf (fun _ => none)) := (g2_2 25 (by omega)).trans h3_2
  refine b_aload_n 0 dX9_init_34 rfl rfl ?_
  refine b_new (n := 26) (cells := 25) (slots := 148) (ci := 8) (N := 2) (fs := [.null, .int 0]) tyX8 inT_8 tyX8_ok v_129 v_130 v_54 rfl (by decide) ⟨Nat.le_of_ble_eq_true rfl, Nat.le_of_ble_eq_true rfl⟩ dX9_init_35 (fun a3 ad3a ce3a h1_3 h2_3 h3_3 h4_3 => ?_)
  refine b_dup dX9_init_38 rfl ?_
  refine b_init (n := 27) (cells := 26) (slots := 150) (rest := [.ref a3, .ref a]) (As := []) lI_9_27 (cI8 _ _ _ _ _ _ _ 26 _ (by omega) h1_3 h3_3) ⟨Nat.le_of_ble_eq_true rfl, Nat.le_of_ble_eq_true rfl⟩ ⟨Nat.le_of_ble_eq_true rfl, Nat.le_of_ble_eq_true rfl⟩ rfl rfl (Nat.le_of_ble_eq_true rfl) dX9_init_39 (fun n3 ad3b ce3b hp3 => ?_)
  obtain ⟨rfl, p1_3, p2_3, p3_3, p4_3⟩ := hp3
  have q1_3 : ∀ x, x < 26 → ad3b x = ad2b x := fun x hx => (p1_3 x (by omega)).trans (h2_3 x (by omega))
  have q2_3 : ∀ x, x < 26 → ce3b x = ce2c x := fun x hx => (p2_3 x (by omega) (by omega)).trans (h4_3 x (by omega))
  have q3_3 : ad3b 26 = a3 := (p1_3 26 (by omega)).trans h1_3
  refine b_putF (n := 28) (cells := 27) (slots := 198) (i := 0) hI fF_9_28 (by omega) ((q1_3 0 (by omega)).trans hA_3) ((q2_3 0 (by omega)).trans h0_3) rfl rfl (Nat.le_of_ble_eq_true rfl) dX9_init_42 (fun ce3c g1_3 g2_3 => ?_)
  have hS_4 : SF E.2.2.2 28 ad3b ce3c := hS_3.step (Or.inr (Or.inr (Or.inr (Or.inl rfl)))) q1_3 (fun j _ hj _ => (g2_3 j (by omega)).trans (q2_3 j hj)) (fun j u1 u2 u3 => by
    rw [g2_3 j (by omega)]
    rcases (show j = 26 ∨ j = 27 by omega) with rfl | rfl
    · exact p3_3
    · exact p4_3)
  have h0_4 : ce3c 0 = .inr (9, [.ref (ad3b 1), .ref (ad3b 13), .ref (ad3b 25), .ref (ad3b 26), .null, .null, .null, .null, .null, .int 0]) := by
    rw [g1_3, ← q1_3 1 (by omega), ← q1_3 13 (by omega), ← q1_3 25 (by omega), ← q3_3]; rfl
  have hA_4 : ad3b 0 = a := (q1_3 0 (by omega)).trans hA_3
  have h25_4 : ce3c 25 = .inl (E.2.2.2 16, 4, qf (fun _ => none)) := (g2_3 25 (by omega)).trans ((q2_3 25 (by omega)).trans h25_3)
  refine b_aload_n 0 dX9_init_45 rfl rfl ?_
  refine b_new (n := 28) (cells := 27) (slots := 198) (ci := 4) (N := 8) (fs := [.null, .int 0, .int 0, .int 0, .int 0, .int 0, .int 0, .int 0]) tyX4 inT_4 tyX4_ok v_146 v_147 v_55 rfl (by decide) ⟨Nat.le_of_ble_eq_true rfl, Nat.le_of_ble_eq_true rfl⟩ dX9_init_46 (fun a4 ad4a ce4a h1_4 h2_4 h3_4 h4_4 => ?_)
  refine b_dup dX9_init_49 rfl ?_
  refine b_aload_n 0 dX9_init_50 rfl rfl ?_
  refine b_get (i := 0) fD_9_28 (by omega) ((h2_4 0 (by omega)).trans hA_4) ((h4_4 0 (by omega)).trans h0_4) rfl dX9_init_51 ?_
  refine b_init (n := 29) (cells := 28) (slots := 206) (rest := [.ref a4, .ref a]) (As := [.ref (ad3b 26)]) lI_9_34 (cI4 _ _ _ _ _ _ _ 28 _ (ad3b 26) (by omega) h1_4 h3_4) ⟨Nat.le_of_ble_eq_true rfl, Nat.le_of_ble_eq_true rfl⟩ ⟨Nat.le_of_ble_eq_true rfl, Nat.le_of_ble_eq_true rfl⟩ rfl rfl (Nat.le_of_ble_eq_true rfl) dX9_init_54 (fun n4 ad4b ce4b hp4 => ?_)
  obtain ⟨rfl, p1_4, p2_4, p3_4⟩ := hp4
  have q1_4 : ∀ x, x < 28 → ad4b x = ad3b x := fun x hx => (p1_4 x (by omega)).trans (h2_4 x (by omega))
  have q2_4 : ∀ x, x < 28 → ce4b x = ce3c x := fun x hx => (p2_4 x (by omega) (by omega)).trans (h4_4 x (by omega))
  have q3_4 : ad4b 28 = a4 := (p1_4 28 (by omega)).trans h1_4
  refine b_putF (n := 29) (cells := 28) (slots := 206) (i := 0) hI fF_9_37 (by omega) ((q1_4 0 (by omega)).trans hA_4) ((q2_4 0 (by omega)).trans h0_4) rfl rfl (Nat.le_of_ble_eq_true rfl) dX9_init_57 (fun ce4c g1_4 g2_4 => ?_)
  have hS_5 : SF E.2.2.2 29 ad4b ce4c := hS_4.step (Or.inr (Or.inr (Or.inr (Or.inr (Or.inl rfl))))) q1_4 (fun j _ hj _ => (g2_4 j (by omega)).trans (q2_4 j hj)) (fun j u1 u2 u3 => by
    rw [g2_4 j (by omega)]
    have ej : j = 28 := by omega
    subst ej
    rw [p3_4, ← q1_4 26 (by omega)]; rfl)
  have h0_5 : ce4c 0 = .inr (9, [.ref (ad4b 1), .ref (ad4b 13), .ref (ad4b 25), .ref (ad4b 26), .ref (ad4b 28), .null, .null, .null, .null, .int 0]) := by
    rw [g1_4, ← q1_4 1 (by omega), ← q1_4 13 (by omega), ← q1_4 25 (by omega), ← q1_4 26 (by omega), ← q3_4]; rfl
  have hA_5 : ad4b 0 = a := (q1_4 0 (by omega)).trans hA_4
  have h25_5 : ce4c 25 = .inl (E.2.2.2 16, 4, qf (fun _ => none)) := (g2_4 25 (by omega)).trans ((q2_4 25 (by omega)).trans h25_4)
  refine b_aload_n 0 dX9_init_60 rfl rfl ?_
  refine b_new (n := 29) (cells := 28) (slots := 206) (ci := 3) (N := 2) (fs := [.null, .int 0]) tyX3 inT_3 tyX3_ok v_184 v_185 v_56 rfl (by decide) ⟨Nat.le_of_ble_eq_true rfl, Nat.le_of_ble_eq_true rfl⟩ dX9_init_61 (fun a5 ad5a ce5a h1_5 h2_5 h3_5 h4_5 => ?_)
  refine b_dup dX9_init_64 rfl ?_
  refine b_init (n := 30) (cells := 29) (slots := 208) (rest := [.ref a5, .ref a]) (As := []) lI_9_43 (cI3 _ _ _ _ _ _ _ 29 _ (by omega) h1_5 h3_5) ⟨Nat.le_of_ble_eq_true rfl, Nat.le_of_ble_eq_true rfl⟩ ⟨Nat.le_of_ble_eq_true rfl, Nat.le_of_ble_eq_true rfl⟩ rfl rfl (Nat.le_of_ble_eq_true rfl) dX9_init_65 (fun n5 ad5b ce5b hp5 => ?_)
  obtain ⟨rfl, p1_5, p2_5, p3_5, p4_5, p5_5⟩ := hp5
  have q1_5 : ∀ x, x < 29 → ad5b x = ad4b x := fun x hx => (p1_5 x (by omega)).trans (h2_5 x (by omega))
  have q2_5 : ∀ x, x < 29 → ce5b x = ce4c x := fun x hx => (p2_5 x (by omega) (by omega)).trans (h4_5 x (by omega))
  have q3_5 : ad5b 29 = a5 := (p1_5 29 (by omega)).trans h1_5
  refine b_putF (n := 71) (cells := 70) (slots := 648) (i := 0) hI fF_9_44 (by omega) ((q1_5 0 (by omega)).trans hA_5) ((q2_5 0 (by omega)).trans h0_5) rfl rfl (Nat.le_of_ble_eq_true rfl) dX9_init_68 (fun ce5c g1_5 g2_5 => ?_)
  have hS_6 : SF E.2.2.2 71 ad5b ce5c := hS_5.step (Or.inr (Or.inr (Or.inr (Or.inr (Or.inr (Or.inl rfl)))))) q1_5 (fun j _ hj _ => (g2_5 j (by omega)).trans (q2_5 j hj)) (fun j u1 u2 u3 => by
    rw [g2_5 j (by omega)]
    by_cases w1 : j = 29
    · subst w1; exact p3_5
    by_cases w2 : j = 30
    · subst w2; exact p4_5
    obtain ⟨y1, y2⟩ := p5_5 ((j - 31) / 2) (by omega)
    obtain ⟨x1, x2⟩ := BX_p (cy := E.2.2.2) (ad := ad5b) (show (j - 31) / 2 < 20 by omega)
    by_cases w3 : j % 2 = 1
    · rw [show j = 31 + 2 * ((j - 31) / 2) by omega, x1]; exact y1
    · rw [show j = 32 + 2 * ((j - 31) / 2) by omega, x2]; exact y2)
  have h0_6 : ce5c 0 = .inr (9, [.ref (ad5b 1), .ref (ad5b 13), .ref (ad5b 25), .ref (ad5b 26), .ref (ad5b 28), .ref (ad5b 29), .null, .null, .null, .int 0]) := by
    rw [g1_5, ← q1_5 1 (by omega), ← q1_5 13 (by omega), ← q1_5 25 (by omega), ← q1_5 26 (by omega), ← q1_5 28 (by omega), ← q3_5]; rfl
  have hA_6 : ad5b 0 = a := (q1_5 0 (by omega)).trans hA_5
  have h25_6 : ce5c 25 = .inl (E.2.2.2 16, 4, qf (fun _ => none)) := (g2_5 25 (by omega)).trans ((q2_5 25 (by omega)).trans h25_5)
  refine b_aload_n 0 dX9_init_71 rfl rfl ?_
  refine b_new (n := 71) (cells := 70) (slots := 648) (ci := 1) (N := 3) (fs := [.null, .int 0, .int 0]) tyX1 inT_1 tyX1_ok v_249 v_250 v_58 rfl (by decide) ⟨Nat.le_of_ble_eq_true rfl, Nat.le_of_ble_eq_true rfl⟩ dX9_init_72 (fun a6 ad6a ce6a h1_6 h2_6 h3_6 h4_6 => ?_)
  refine b_dup dX9_init_75 rfl ?_
  refine b_init (n := 72) (cells := 71) (slots := 651) (rest := [.ref a6, .ref a]) (As := []) lI_9_50 (cI1 _ _ _ _ _ _ _ 71 _ (by omega) h1_6 h3_6) ⟨Nat.le_of_ble_eq_true rfl, Nat.le_of_ble_eq_true rfl⟩ ⟨Nat.le_of_ble_eq_true rfl, Nat.le_of_ble_eq_true rfl⟩ rfl rfl (Nat.le_of_ble_eq_true rfl) dX9_init_76 (fun n6 ad6b ce6b hp6 => ?_)
  obtain ⟨rfl, p1_6, p2_6, p3_6, p4_6⟩ := hp6
  have q1_6 : ∀ x, x < 71 → ad6b x = ad5b x := fun x hx => (p1_6 x (by omega)).trans (h2_6 x (by omega))
  have q2_6 : ∀ x, x < 71 → ce6b x = ce5c x := fun x hx => (p2_6 x (by omega) (by omega)).trans (h4_6 x (by omega))
  have q3_6 : ad6b 71 = a6 := (p1_6 71 (by omega)).trans h1_6
  refine b_putF (n := 73) (cells := 72) (slots := 1451) (i := 0) hI fF_9_51 (by omega) ((q1_6 0 (by omega)).trans hA_6) ((q2_6 0 (by omega)).trans h0_6) rfl rfl (Nat.le_of_ble_eq_true rfl) dX9_init_79 (fun ce6c g1_6 g2_6 => ?_)
  have hS_7 : SF E.2.2.2 73 ad6b ce6c := hS_6.step (Or.inr (Or.inr (Or.inr (Or.inr (Or.inr (Or.inr (Or.inl rfl))))))) q1_6 (fun j _ hj _ => (g2_6 j (by omega)).trans (q2_6 j hj)) (fun j u1 u2 u3 => by
    rw [g2_6 j (by omega)]
    rcases (show j = 71 ∨ j = 72 by omega) with rfl | rfl
    · exact p3_6
    · exact p4_6)
  have h0_7 : ce6c 0 = .inr (9, [.ref (ad6b 1), .ref (ad6b 13), .ref (ad6b 25), .ref (ad6b 26), .ref (ad6b 28), .ref (ad6b 29), .ref (ad6b 71), .null, .null, .int 0]) := by
    rw [g1_6, ← q1_6 1 (by omega), ← q1_6 13 (by omega), ← q1_6 25 (by omega), ← q1_6 26 (by omega), ← q1_6 28 (by omega), ← q1_6 29 (by omega), ← q3_6]; rfl
  have hA_7 : ad6b 0 = a := (q1_6 0 (by omega)).trans hA_6
  have h25_7 : ce6c 25 = .inl (E.2.2.2 16, 4, qf (fun _ => none)) := (g2_6 25 (by omega)).trans ((q2_6 25 (by omega)).trans h25_6)
  refine b_aload_n 0 dX9_init_82 rfl rfl ?_
  refine b_new (n := 73) (cells := 72) (slots := 1451) (ci := 6) (N := 1) (fs := [.null]) tyX6 inT_6 tyX6_ok v_266 v_267 v_59 rfl (by decide) ⟨Nat.le_of_ble_eq_true rfl, Nat.le_of_ble_eq_true rfl⟩ dX9_init_83 (fun a7 ad7a ce7a h1_7 h2_7 h3_7 h4_7 => ?_)
  refine b_dup dX9_init_86 rfl ?_
  refine b_init (n := 74) (cells := 73) (slots := 1452) (rest := [.ref a7, .ref a]) (As := []) lI_9_57 (cI6 _ _ _ _ _ _ _ 73 _ (by omega) h1_7 h3_7) ⟨Nat.le_of_ble_eq_true rfl, Nat.le_of_ble_eq_true rfl⟩ ⟨Nat.le_of_ble_eq_true rfl, Nat.le_of_ble_eq_true rfl⟩ rfl rfl (Nat.le_of_ble_eq_true rfl) dX9_init_87 (fun n7 ad7b ce7b hp7 => ?_)
  obtain ⟨rfl, p1_7, p2_7, p3_7, p4_7⟩ := hp7
  have q1_7 : ∀ x, x < 73 → ad7b x = ad6b x := fun x hx => (p1_7 x (by omega)).trans (h2_7 x (by omega))
  have q2_7 : ∀ x, x < 73 → ce7b x = ce6c x := fun x hx => (p2_7 x (by omega) (by omega)).trans (h4_7 x (by omega))
  have q3_7 : ad7b 73 = a7 := (p1_7 73 (by omega)).trans h1_7
  refine b_putF (n := 75) (cells := 74) (slots := 2859) (i := 0) hI fF_9_58 (by omega) ((q1_7 0 (by omega)).trans hA_7) ((q2_7 0 (by omega)).trans h0_7) rfl rfl (Nat.le_of_ble_eq_true rfl) dX9_init_90 (fun ce7c g1_7 g2_7 => ?_)
  have hS_8 : SF E.2.2.2 75 ad7b ce7c := hS_7.step (Or.inr (Or.inr (Or.inr (Or.inr (Or.inr (Or.inr (Or.inr (Or.inl rfl)))))))) q1_7 (fun j _ hj _ => (g2_7 j (by omega)).trans (q2_7 j hj)) (fun j u1 u2 u3 => by
    rw [g2_7 j (by omega)]
    rcases (show j = 73 ∨ j = 74 by omega) with rfl | rfl
    · exact p3_7
    · exact p4_7)
  have h0_8 : ce7c 0 = .inr (9, [.ref (ad7b 1), .ref (ad7b 13), .ref (ad7b 25), .ref (ad7b 26), .ref (ad7b 28), .ref (ad7b 29), .ref (ad7b 71), .ref (ad7b 73), .null, .int 0]) := by
    rw [g1_7, ← q1_7 1 (by omega), ← q1_7 13 (by omega), ← q1_7 25 (by omega), ← q1_7 26 (by omega), ← q1_7 28 (by omega), ← q1_7 29 (by omega), ← q1_7 71 (by omega), ← q3_7]; rfl
  have hA_8 : ad7b 0 = a := (q1_7 0 (by omega)).trans hA_7
  have h25_8 : ce7c 25 = .inl (E.2.2.2 16, 4, qf (fun _ => none)) := (g2_7 25 (by omega)).trans ((q2_7 25 (by omega)).trans h25_7)
  refine b_aload_n 0 dX9_init_93 rfl rfl ?_
  refine b_bipush (v := 6) dX9_init_94 (by decide) ?_
  refine b_newi (n := 75) (cells := 74) (slots := 2859) v_239 (N := 6) (by decide) (by decide) (by decide) ⟨Nat.le_of_ble_eq_true rfl, Nat.le_of_ble_eq_true rfl⟩ dX9_init_96 (fun a8 ad8b ce8b h1_8 h2_8 h3_8 h4_8 => ?_)
  have q1_8 : ∀ x, x < 75 → ad8b x = ad7b x := fun x hx => h2_8 x (by omega)
  have q2_8 : ∀ x, x < 75 → ce8b x = ce7c x := fun x hx => h4_8 x (by omega)
  refine b_putF (n := 76) (cells := 75) (slots := 2865) (i := 0) hI fF_9_62 (by omega) ((q1_8 0 (by omega)).trans hA_8) ((q2_8 0 (by omega)).trans h0_8) rfl rfl (Nat.le_of_ble_eq_true rfl) dX9_init_98 (fun ce8c g1_8 g2_8 => ?_)
  have hS_9 : SF E.2.2.2 76 ad8b ce8c := hS_8.step (Or.inr (Or.inr (Or.inr (Or.inr (Or.inr (Or.inr (Or.inr (Or.inr (Or.inl rfl))))))))) q1_8 (fun j _ hj _ => (g2_8 j (by omega)).trans (q2_8 j hj)) (fun j u1 u2 u3 => by
    have ej : j = 75 := by omega
    subst ej
    exact (g2_8 75 (by omega)).trans h3_8)
  have h0_9 : ce8c 0 = .inr (9, [.ref (ad8b 1), .ref (ad8b 13), .ref (ad8b 25), .ref (ad8b 26), .ref (ad8b 28), .ref (ad8b 29), .ref (ad8b 71), .ref (ad8b 73), .ref (ad8b 75), .int 0]) := by
    rw [g1_8, ← q1_8 1 (by omega), ← q1_8 13 (by omega), ← q1_8 25 (by omega), ← q1_8 26 (by omega), ← q1_8 28 (by omega), ← q1_8 29 (by omega), ← q1_8 71 (by omega), ← q1_8 73 (by omega), ← h1_8]; rfl
  have hA_9 : ad8b 0 = a := (q1_8 0 (by omega)).trans hA_8
  have h25_9 : ce8c 25 = .inl (E.2.2.2 16, 4, qf (rwf ad8b 76 2 0)) := by
    rw [g2_8 25 (by omega), q2_8 25 (by omega), h25_8, rwf_0 (ad := ad8b)]
  refine b_iconst (v := nI 0) dX9_init_101 (by decide) ?_
  refine b_istore_n dX9_init_102 rfl (by decide) rfl ?_
  refine loopH (fun ad' ce' hv => ?_) 5 0 ad8b ce8c (by omega) (by omega) ⟨hS_9, h0_9, h25_9, hA_9⟩
  obtain ⟨v1, v2, v3, v4⟩ := hv
  exact b_vret hI ⟨rfl, v4, v2, fun j h1 h2 => by
    by_cases e : j = 25
    · subst e; exact v3
    · exact v1 j h1 h2 e⟩ (Nat.le_of_ble_eq_true rfl) (Nat.le_of_ble_eq_true rfl) dX9_init_127)
