section STR
variable {E : XE} {Λ : Lay} {q : MD} {σ : Mem} {pc : Nat} {lv : List (Nat × Value)} {st : List Value} {res : Option Int32 × Mem}
def chJS (j k : Nat) : Int32 := (((bytJS.getD j []).getD k 0 &&& 255).toUInt32 % 65536).toInt32
theorem r_getsC {idx : Nat} (hw0 : Cond.fieldLink q.1 idx "java/lang/String" "COMPACT_STRINGS" "Z" ∈ TBL) (hd : decode q.2.1 pc = .ok (.getstatic idx, 3)) (kk : G E Λ q σ (pc + 3) lv (.int 1 :: st) res) : G E Λ q σ pc lv st res := fun C ls H locs hl hw => va_gets C.1 C.2.1 C.2.2.2.2.2.2.2.2.2.2.2.2.2.1 hw.2 C.2.2.2.2.1 (C.2.2.2.2.2.1 _ hw0) (fun _ h => h) hd (kk C ls H locs hl hw)
theorem r_getsF {idx : Nat} (hw0 : Cond.fieldLink q.1 idx "jdk/internal/util/Preconditions" "SIOOBE_FORMATTER" "Ljava/util/function/BiFunction;" ∈ TBL) (hd : decode q.2.1 pc = .ok (.getstatic idx, 3)) (kn : G E Λ q σ (pc + 3) lv (.null :: st) res) (kr : ∀ t : Nat, G E Λ q σ (pc + 3) lv (.ref t :: st) res) : G E Λ q σ pc lv st res := by
  intro C ls H locs hl hw
  rcases C.2.2.2.2.2.2.2.2.2.2.2.2.2.2 with h | ⟨t, h⟩
  · exact va_gets C.1 C.2.1 h hw.2 C.2.2.2.2.1 (C.2.2.2.2.2.1 _ hw0) (fun _ h => h) hd (kn C ls H locs hl hw)
  · exact va_gets C.1 C.2.1 h hw.2 C.2.2.2.2.1 (C.2.2.2.2.2.1 _ hw0) (fun _ h => h) hd (kr t C ls H locs hl hw)
theorem r_sgetV {j idx : Nat} (hj : j < nJS) (hw0 : Cond.fieldLink q.1 idx "java/lang/String" "value" "[B" ∈ TBL) (hd : decode q.2.1 pc = .ok (.getfield idx, 3)) (kk : G E Λ q σ (pc + 3) lv (.ref (xv E j) :: st) res) : G E Λ q σ pc lv (.ref (xs E j) :: st) res := fun C ls H locs hl hw => vk_getf C.1 C.2.1 (C.2.2.2.2.2.2.2.2.2.2.2.1.1 j hj).2.2.1 hw.2 C.2.2.2.2.1 (C.2.2.2.2.2.1 _ hw0) (fun _ h => h) hd (kk C ls H locs hl hw)
theorem r_sgetC {j idx : Nat} (hj : j < nJS) (hw0 : Cond.fieldLink q.1 idx "java/lang/String" "coder" "B" ∈ TBL) (hd : decode q.2.1 pc = .ok (.getfield idx, 3)) (kk : G E Λ q σ (pc + 3) lv (.int 0 :: st) res) : G E Λ q σ pc lv (.ref (xs E j) :: st) res := fun C ls H locs hl hw => vk_getf C.1 C.2.1 (C.2.2.2.2.2.2.2.2.2.2.2.1.1 j hj).2.1 hw.2 C.2.2.2.2.1 (C.2.2.2.2.2.1 _ hw0) (fun _ h => h) hd (kk C ls H locs hl hw)
theorem r_salen {j : Nat} (hj : j < nJS) (hd : decode q.2.1 pc = .ok (.arraylength, 1)) (kk : G E Λ q σ (pc + 1) lv (.int (nI (lenJS.getD j 0)) :: st) res) : G E Λ q σ pc lv (.ref (xv E j) :: st) res := fun C ls H locs hl hw => va_tlen C.1 C.2.1 (C.2.2.2.2.2.2.2.2.2.2.2.1.1 j hj).2.2.2 hw.2 rfl hd (kk C ls H locs hl hw)
theorem r_sbald {j : Nat} {i : Int32} (hj : j < nJS) (hb : inb i (lenJS.getD j 0) = true) (hd : decode q.2.1 pc = .ok (.baload, 1)) (kk : G E Λ q σ (pc + 1) lv (.int ((bytJS.getD j []).getD i.toNatClampNeg 0) :: st) res) : G E Λ q σ pc lv (.int i :: .ref (xv E j) :: st) res := fun C ls H locs hl hw => va_tb C.1 C.2.1 (C.2.2.2.2.2.2.2.2.2.2.2.1.1 j hj).2.2.2 hw.2 (inb_in hb) rfl hd (kk C ls H locs hl hw)
end STR
theorem c_coder (l : Launch) (d : SD) {Λ : Lay} (σ : Mem) {j : Nat} (hj : j < nJS) : Me l d Λ yJ0_coder_7d493 qJ0_coder_7d493 σ [.ref (d.2.2.2.1 j)] (some 0, σ) := me_of (avs := fun d => [.ref (d.2.2.2.1 j)]) (by decide) rfl (Nat.le_of_ble_eq_true rfl) (fun E => by
  refine r_getsC (pc := 0) (lv := [(0, .ref (xs E j))]) w_508 dJ0_coder_7d493_0 ?_
  refine r_if_eq (α := Unit) (A := ()) (B := ()) (Z := ()) 13 dJ0_coder_7d493_3 (by decide) rfl (fun c _ => absurd c (by decide)) (fun _ _ => ?_)
  refine r_aload_n (pc := 6) 0 dJ0_coder_7d493_6 rfl rfl ?_
  refine r_sgetC (pc := 7) hj w_1117 dJ0_coder_7d493_7 ?_
  refine r_goto (pc := 10) 14 dJ0_coder_7d493_10 (by decide) ?_
  exact r_zret (pc := 14) rfl rfl dJ0_coder_7d493_14 rfl rfl)
theorem c_isLatin1 (l : Launch) (d : SD) {Λ : Lay} (σ : Mem) {j : Nat} (hj : j < nJS) : Me l d Λ yJ0_isLatin1_aae02 qJ0_isLatin1_aae02 σ [.ref (d.2.2.2.1 j)] (some 1, σ) := me_of (avs := fun d => [.ref (d.2.2.2.1 j)]) (by decide) rfl (Nat.le_of_ble_eq_true rfl) (fun E => by
  refine r_getsC (pc := 0) (lv := [(0, .ref (xs E j))]) w_508 dJ0_isLatin1_aae02_0 ?_
  refine r_if_eq (α := Unit) (A := ()) (B := ()) (Z := ()) 17 dJ0_isLatin1_aae02_3 (by decide) rfl (fun c _ => absurd c (by decide)) (fun _ _ => ?_)
  refine r_aload_n (pc := 6) 0 dJ0_isLatin1_aae02_6 rfl rfl ?_
  refine r_sgetC (pc := 7) hj w_1117 dJ0_isLatin1_aae02_7 ?_
  refine r_if_ne (α := Unit) (A := ()) (B := ()) (Z := ()) 17 dJ0_isLatin1_aae02_10 (by decide) rfl (fun _ _ => ?_) (fun c _ => absurd rfl c)
  refine r_iconst (pc := 13) dJ0_isLatin1_aae02_13 ci_1 ?_
  refine r_goto (pc := 14) 18 dJ0_isLatin1_aae02_14 (by decide) ?_
  exact r_zret (pc := 18) rfl rfl dJ0_isLatin1_aae02_18 rfl rfl)
theorem c_length (l : Launch) (d : SD) {Λ : Lay} (σ : Mem) {j : Nat} (hj : j < nJS) : Me l d Λ yJ0_length_8abf5 qJ0_length_8abf5 σ [.ref (d.2.2.2.1 j)] (some (nI (lenJS.getD j 0)), σ) := me_of (avs := fun d => [.ref (d.2.2.2.1 j)]) (by decide) rfl (Nat.le_of_ble_eq_true rfl) (fun E => by
  refine r_aload_n (pc := 0) (lv := [(0, .ref (xs E j))]) 0 dJ0_length_8abf5_0 rfl rfl ?_
  refine r_sgetV (pc := 1) hj w_1116 dJ0_length_8abf5_1 ?_
  refine r_salen (pc := 4) hj dJ0_length_8abf5_4 ?_
  refine r_aload_n (pc := 5) 0 dJ0_length_8abf5_5 rfl rfl ?_
  refine r_callT (pc := 6) (j := j) (As := []) (rest := [.int (nI (lenJS.getD j 0))]) lkRJ0_335 (c_coder _ _ σ hj) hj rfl ⟨Nat.le_of_ble_eq_true rfl, Nat.le_of_ble_eq_true rfl⟩ rfl rfl (Nat.le_of_ble_eq_true rfl) dJ0_length_8abf5_6 rfl ?_
  refine r_ishr (pc := 9) dJ0_length_8abf5_9 ?_
  exact r_iret (pc := 10) rfl dJ0_length_8abf5_10 (sb_shr0 _) rfl)
theorem c_pcheck (l : Launch) (d : SD) {Λ : Lay} (σ : Mem) {a b : Int32} {v : Value} (hv : v = .null ∨ ∃ t, v = .ref t) (h1 : ¬ a < 0) (h2 : a < b) : Me l d Λ yJ3_checkIndex_8e157 qJ3_checkIndex_8e157 σ [.int a, .int b, v] (some a, σ) := me_of (avs := fun _ => [.int a, .int b, v]) (by decide) rfl (by rcases hv with rfl | ⟨t, rfl⟩ <;> exact Nat.le_of_ble_eq_true rfl) (fun E => by
  refine r_iload_n (pc := 0) (lv := [(0, .int a), (1, .int b), (2, v)]) 0 dJ3_checkIndex_8e157_0 rfl rfl ?_
  refine r_if_lt (α := Unit) (A := ()) (B := ()) (Z := ()) 9 dJ3_checkIndex_8e157_1 (by decide) rfl (fun c _ => absurd c h1) (fun _ _ => ?_)
  refine r_iload_n (pc := 4) 0 dJ3_checkIndex_8e157_4 rfl rfl ?_
  refine r_iload_n (pc := 5) 1 dJ3_checkIndex_8e157_5 rfl rfl ?_
  refine r_icmp_lt (α := Unit) (A := ()) (B := ()) (Z := ()) 16 dJ3_checkIndex_8e157_6 (by decide) rfl (fun _ _ => ?_) (fun c _ => absurd h2 c)
  refine r_iload_n (pc := 16) 0 dJ3_checkIndex_8e157_16 rfl rfl ?_
  exact r_iret (pc := 17) rfl dJ3_checkIndex_8e157_17 rfl rfl)
theorem c_scheck (l : Launch) (d : SD) {Λ : Lay} (σ : Mem) {a b : Int32} (h1 : ¬ a < 0) (h2 : a < b) : Me l d Λ yJ0_checkIndex_df160 qJ0_checkIndex_df160 σ [.int a, .int b] (none, σ) := me_of (avs := fun _ => [.int a, .int b]) (by decide) rfl (Nat.le_of_ble_eq_true rfl) (fun E => by
  refine r_iload_n (pc := 0) (lv := [(0, .int a), (1, .int b)]) 0 dJ0_checkIndex_df160_0 rfl rfl ?_
  refine r_iload_n (pc := 1) 1 dJ0_checkIndex_df160_1 rfl rfl ?_
  refine r_getsF (pc := 2) w_524 dJ0_checkIndex_df160_2 ?_ (fun t => ?_)
  · refine r_callS (pc := 5) (As := [.int a, .int b, .null]) (rest := []) lkRJ0_1059 (c_pcheck _ _ σ (Or.inl rfl) h1 h2) ⟨Nat.le_of_ble_eq_true rfl, Nat.le_of_ble_eq_true rfl⟩ rfl rfl (Nat.le_of_ble_eq_true rfl) dJ0_checkIndex_df160_5 rfl ?_
    refine r_pop (pc := 8) dJ0_checkIndex_df160_8 rfl ?_
    exact r_vret (pc := 9) rfl dJ0_checkIndex_df160_9 rfl
  · refine r_callS (pc := 5) (As := [.int a, .int b, .ref t]) (rest := []) lkRJ0_1059 (c_pcheck _ _ σ (Or.inr ⟨t, rfl⟩) h1 h2) ⟨Nat.le_of_ble_eq_true rfl, Nat.le_of_ble_eq_true rfl⟩ rfl rfl (Nat.le_of_ble_eq_true rfl) dJ0_checkIndex_df160_5 rfl ?_
    refine r_pop (pc := 8) dJ0_checkIndex_df160_8 rfl ?_
    exact r_vret (pc := 9) rfl dJ0_checkIndex_df160_9 rfl)
theorem lenJS_small : ∀ j, j < nJS → lenJS.getD j 0 < 2 ^ 31 := by decide +kernel
theorem inb_pos {i : Int32} {n : Nat} (h : inb i n = true) : ¬ i < 0 := fun z => (inb_in h) (Or.inl z)
theorem inb_nI {i : Int32} {n : Nat} (h : inb i n = true) (hn : n < 2 ^ 31) : i < nI n := by
  obtain ⟨k, hk, rfl⟩ := vp_in_of (inb_in h) hn
  exact nI_lt hk hn
theorem c_latAt (l : Launch) (d : SD) {Λ : Lay} (σ : Mem) {j : Nat} {i : Int32} (hj : j < nJS) (hb : inb i (lenJS.getD j 0) = true) : Me l d Λ yJ1_charAt_3b067 qJ1_charAt_3b067 σ [.ref (d.2.2.2.2 j), .int i] (some (chJS j i.toNatClampNeg), σ) := me_of (avs := fun d => [.ref (d.2.2.2.2 j), .int i]) (by decide) rfl (Nat.le_of_ble_eq_true rfl) (fun E => by
  refine r_iload_n (pc := 0) (lv := [(0, .ref (xv E j)), (1, .int i)]) 1 dJ1_charAt_3b067_0 rfl rfl ?_
  refine r_aload_n (pc := 1) 0 dJ1_charAt_3b067_1 rfl rfl ?_
  refine r_salen (pc := 2) hj dJ1_charAt_3b067_2 ?_
  refine r_callS (pc := 3) (As := [.int i, .int (nI (lenJS.getD j 0))]) (rest := []) lkRJ1_9 (c_scheck _ _ σ (inb_pos hb) (inb_nI hb (lenJS_small j hj))) ⟨Nat.le_of_ble_eq_true rfl, Nat.le_of_ble_eq_true rfl⟩ rfl rfl (Nat.le_of_ble_eq_true rfl) dJ1_charAt_3b067_3 rfl ?_
  refine r_aload_n (pc := 6) 0 dJ1_charAt_3b067_6 rfl rfl ?_
  refine r_iload_n (pc := 7) 1 dJ1_charAt_3b067_7 rfl rfl ?_
  refine r_sbald (pc := 8) hj hb dJ1_charAt_3b067_8 ?_
  refine r_sipush (pc := 9) dJ1_charAt_3b067_9 cs_255 ?_
  refine r_iand (pc := 12) dJ1_charAt_3b067_12 ?_
  refine r_i2c (pc := 13) dJ1_charAt_3b067_13 ?_
  exact r_zret (pc := 14) rfl (pk_nc _) dJ1_charAt_3b067_14 rfl rfl)
theorem c_charAt (l : Launch) (d : SD) {Λ : Lay} (σ : Mem) {j : Nat} {i : Int32} (hj : j < nJS) (hb : inb i (lenJS.getD j 0) = true) : Me l d Λ yJ0_charAt_5068e qJ0_charAt_5068e σ [.ref (d.2.2.2.1 j), .int i] (some (chJS j i.toNatClampNeg), σ) := me_of (avs := fun d => [.ref (d.2.2.2.1 j), .int i]) (by decide) rfl (Nat.le_of_ble_eq_true rfl) (fun E => by
  refine r_aload_n (pc := 0) (lv := [(0, .ref (xs E j)), (1, .int i)]) 0 dJ0_charAt_5068e_0 rfl rfl ?_
  refine r_callT (pc := 1) (j := j) (As := []) (rest := []) lkRJ0_492 (c_isLatin1 _ _ σ hj) hj rfl ⟨Nat.le_of_ble_eq_true rfl, Nat.le_of_ble_eq_true rfl⟩ rfl rfl (Nat.le_of_ble_eq_true rfl) dJ0_charAt_5068e_1 rfl ?_
  refine r_if_eq (α := Unit) (A := ()) (B := ()) (Z := ()) 16 dJ0_charAt_5068e_4 (by decide) rfl (fun c _ => absurd c (by decide)) (fun _ _ => ?_)
  refine r_aload_n (pc := 7) 0 dJ0_charAt_5068e_7 rfl rfl ?_
  refine r_sgetV (pc := 8) hj w_1116 dJ0_charAt_5068e_8 ?_
  refine r_iload_n (pc := 11) 1 dJ0_charAt_5068e_11 rfl rfl ?_
  refine r_callS (pc := 12) (As := [.ref (xv E j), .int i]) (rest := []) lkRJ0_495 (c_latAt _ _ σ hj hb) ⟨Nat.le_of_ble_eq_true rfl, Nat.le_of_ble_eq_true rfl⟩ rfl rfl (Nat.le_of_ble_eq_true rfl) dJ0_charAt_5068e_12 rfl ?_
  exact r_zret (pc := 15) rfl (pk_nc _) dJ0_charAt_5068e_15 rfl rfl)
