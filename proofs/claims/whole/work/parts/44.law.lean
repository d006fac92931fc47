/-! THE CLAIM OUT OF ONE WALK OF THE LAW'S BODY. Your part is whole_start (and what it stands on); all else here is the same for every law, but numbers. -/
def R_law : String := "BridgeHouseLaw"
def lw_P (b : Addr) (xs : List Int32) (args : Array Value) (s : State) : Prop := args = #[.ref b] ∧ s.IntsAt b xs ∧ xs.length ≤ 3072 ∧ (Jvm.Cond.and given_1 narrow_1).before args s = true
def lw_Q (_ : Array Value) (s : State) (o : Outcome) (t : State) : Prop := o = .returned (some (.int 1)) ∧ Framed s o t [] 600000 7302250
def lw_Z (below : List Frame) (a : Array Value) (s : State) : State → Prop := fun t => ∃ o, t.status = .running ∧ Ended t below o ∧ lw_Q a s o t
/-- the law's own end, with 1 on the stack, nothing written that was there before, its room as the claim has it -/
theorem lw_ret {p : Program} {l : Launch} {e : Env} {s : State} {m : MethodId} {below : List Frame} {meth : Method} {c : Code} {b : Nat} (hx : p.tables.exec = Jvm.exec) (hb : c.code = code) (hr : meth.sig.returnType = ret) (hlocks : meth.locks = false) {pc : Nat} {H : Heap} {ls : Array Slot} (hdg : decode code pc = .ok (.ireturn, 1)) : W p l e room_1 s m #[Value.ref b] below meth c H [] 600000 7302250 (lw_Z below #[Value.ref b] s) (F0 m pc ls [.int 1]) := by
  intro T hT X
  obtain ⟨fs, hret, hrun, hended, hW, hframe⟩ := X.leave (v := some (.int 1)) (hlocks := hlocks) (fun h => by rw [hr] at h; cases h)
  have hmeth' : T.vm.method? m = some meth := X.method'
  refine ⟨T.setFrames fs, ?_, .returned (some (.int 1)), hrun, hended, rfl, ⟨_, rfl⟩, hW, hframe⟩
  jvm_step X.here [X.here.top, hx, hb, hdg, hmeth', hr, ret, narrow_b1]
  (try refine ⟨rfl, ?_⟩); (try refine ⟨rfl, ?_⟩)
  first | (intro acts; rw [hret _ acts rfl rfl rfl]) | rw [hret _ _ rfl rfl rfl]
  exact Steps.refl _
/-- what holds at the law's entry: the machine, the code, the tables' words (any of lw_tbl by 'hts w (by decide +kernel)'), the script of L ints xs at the cell b, what the Statement gives of the start (any of its parts by flat_of_before) -/
def lw_At (p : Program) (s : State) (m : MethodId) (meth : Method) (c : Code) (b L : Nat) (xs : Nat → Int32) : Prop :=
  p.tables.exec = Jvm.exec ∧ c.code = code ∧ meth.sig.returnType = ret ∧ c.maxLocals = 4 ∧ s.vm.findClass R_law = some m.cls ∧ (∀ w ∈ lw_tbl, w.before #[Value.ref b] s = true) ∧ va_X b L xs s s.heap ∧ b < s.heap.size ∧ meth.locks = false ∧ (Jvm.Cond.and given_1 narrow_1).before #[Value.ref b] s = true
-- ===== the law over two memories =====
abbrev XL : Type := (Program × Launch × Env × Room × State) × (MethodId × Array Value × List Frame × Method × Code) × SD × SD
/-- a memory's cells, where they lie at the law's start -/
def SL (d : SD) (Λ : Lay) (s : State) : Prop := va_K d.1 vwCl (tys d.2.1) s ∧ Inj d Λ ∧ Ext d Λ s s.heap ∧ ∀ i, i < Λ.1 → s.heap.size ≤ d.2.2.1 i
def CL (E : XL) (b L : Nat) (xs : Nat → Int32) : Prop :=
  (E.1.1.tables.exec = Jvm.exec ∧ E.2.1.2.2.2.2.code = cL_law ∧ E.2.1.2.2.2.2.maxLocals = 4 ∧ E.1.2.2.2.2.vm.findClass RL = some E.2.1.1.cls) ∧ (∀ x ∈ TBL, x.before E.2.1.2.1 E.1.2.2.2.2 = true) ∧ E.1.2.2.2.1 = room_1 ∧
  (va_X b L xs E.1.2.2.2.2 E.1.2.2.2.2.heap ∧ b < E.1.2.2.2.2.heap.size) ∧ (∀ x ∈ NWL, va_Nw x E.1.2.2.2.2) ∧ SL E.2.2.1 LX E.1.2.2.2.2 ∧ SL E.2.2.2 LM E.1.2.2.2.2 ∧ (∀ i j, i < 84 → j < 28 → E.2.2.1.2.2.1 i ≠ E.2.2.2.2.2.1 j) ∧ E.2.1.2.1 = #[Value.ref b] ∧ E.2.1.2.2.2.1.sig.returnType = ret ∧ E.2.1.2.2.2.1.locks = false
def WL (E : XL) (σ τ : Mem) (H : Heap) (locs : List Loc) : Prop := va_P E.2.2.1.1 vwCl (wl E.2.2.1 LX σ) H ∧ va_P E.2.2.2.1 vwCl (wl E.2.2.2 LM τ) H ∧ va_S (AF E.1.2.2.2.2.heap.size) E.1.2.2.2.2.heap H locs
def GL (E : XL) (b L : Nat) (xs : Nat → Int32) (σ τ : Mem) (pc : Nat) (lv : List (Nat × Value)) (st : List Value) : Prop :=
  CL E b L xs → ∀ (ls : Array Slot) (H : Heap) (locs : List Loc), lv_has ls 4 lv → WL E σ τ H locs →
    W E.1.1 E.1.2.1 E.1.2.2.1 E.1.2.2.2.1 E.1.2.2.2.2 E.2.1.1 E.2.1.2.1 E.2.1.2.2.1 E.2.1.2.2.2.1 E.2.1.2.2.2.2 H locs 112 7495 (lw_Z E.2.1.2.2.1 E.2.1.2.1 E.1.2.2.2.2) (F0 E.2.1.1 pc ls st)
section LROWS
variable {E : XL} {b L : Nat} {xs : Nat → Int32} {σ τ : Mem} {pc : Nat} {lv : List (Nat × Value)} {st : List Value}
theorem l_iconst {z : Int} {v : Int32} (hd : decode cL_law pc = .ok (.iconst z, 1)) (hv : Int32.ofInt z = v) (k : GL E b L xs σ τ (pc + 1) lv (.int v :: st)) : GL E b L xs σ τ pc lv st := fun C ls H locs hl hw => lv_iconst C.1.1 C.1.2.1 hd hv (k C ls H locs hl hw)
theorem l_bipush {z : Int} {v : Int32} (hd : decode cL_law pc = .ok (.bipush z, 2)) (hv : (Int8.ofInt z).toInt32 = v) (k : GL E b L xs σ τ (pc + 2) lv (.int v :: st)) : GL E b L xs σ τ pc lv st := fun C ls H locs hl hw => lv_bipush C.1.1 C.1.2.1 hd hv (k C ls H locs hl hw)
theorem l_iload_n {j : Fin 4} {i : Nat} {x : Int32} (a : Nat) (hd : decode cL_law pc = .ok (.iload_n j, 1)) (hi : (j : Nat) = i) (hk : lv[a]? = some (i, .int x)) (k : GL E b L xs σ τ (pc + 1) lv (.int x :: st)) : GL E b L xs σ τ pc lv st := fun C ls H locs hl hw => lv_iload_n C.1.1 C.1.2.1 hd hi (lv_at hl a hk) (k C ls H locs hl hw)
theorem l_aload_n {j : Fin 4} {i : Nat} {x : Nat} (a : Nat) (hd : decode cL_law pc = .ok (.aload_n j, 1)) (hi : (j : Nat) = i) (hk : lv[a]? = some (i, .ref x)) (k : GL E b L xs σ τ (pc + 1) lv (.ref x :: st)) : GL E b L xs σ τ pc lv st := fun C ls H locs hl hw => lv_aload_n C.1.1 C.1.2.1 hd hi (lv_at hl a hk) (k C ls H locs hl hw)
theorem l_iinc {i : Nat} {z : Int} {x v : Int32} {lv' : List (Nat × Value)} (a : Nat) (hd : decode cL_law pc = .ok (.iinc i z, 3)) (hk : lv[a]? = some (i, .int x)) (hv : x + Int32.ofInt z = v) (hn : i < 4) (h : (i, Value.int v) :: lv.filter (fun z => !(z.1 == i) && !(z.1 + 1 == i && z.2.category == 2)) = lv') (k : GL E b L xs σ τ (pc + 3) lv' st) : GL E b L xs σ τ pc lv st := fun C ls H locs hl hw => lv_iinc C.1.1 C.1.2.1 hd hl hk hv hn h (fun ls' hl' => k C ls' H locs hl' hw)
theorem l_sub {lv' : List (Nat × Value)} (ks : List Nat) (h : lv_pick lv ks = lv') (k : GL E b L xs σ τ pc lv' st) : GL E b L xs σ τ pc lv st := fun C ls H locs hl hw => k C ls H locs (lv_sub hl ks h) hw
theorem l_goto {off : Int} (tgt : Nat) (hd : decode cL_law pc = .ok (.goto off, 3)) (ht : (pc : Int) + off = (tgt : Int)) (k : GL E b L xs σ τ tgt lv st) : GL E b L xs σ τ pc lv st := fun C ls H locs hl hw => lv_goto C.1.1 C.1.2.1 hd ht (k C ls H locs hl hw)
theorem l_iadd {x y : Int32} (v : Int32) (hd : decode cL_law pc = .ok (.iadd, 1)) (hv : x + y = v) (k : GL E b L xs σ τ (pc + 1) lv (.int v :: st)) : GL E b L xs σ τ pc lv (.int y :: .int x :: st) := fun C ls H locs hl hw => lv_iadd C.1.1 C.1.2.1 hd (by rw [hv]; exact k C ls H locs hl hw)
theorem l_isub {x y : Int32} (v : Int32) (hd : decode cL_law pc = .ok (.isub, 1)) (hv : x - y = v) (k : GL E b L xs σ τ (pc + 1) lv (.int v :: st)) : GL E b L xs σ τ pc lv (.int y :: .int x :: st) := fun C ls H locs hl hw => lv_isub C.1.1 C.1.2.1 hd (by rw [hv]; exact k C ls H locs hl hw)
theorem l_iand {x y : Int32} (v : Int32) (hd : decode cL_law pc = .ok (.iand, 1)) (hv : x &&& y = v) (k : GL E b L xs σ τ (pc + 1) lv (.int v :: st)) : GL E b L xs σ τ pc lv (.int y :: .int x :: st) := fun C ls H locs hl hw => lv_iand C.1.1 C.1.2.1 hd (by rw [hv]; exact k C ls H locs hl hw)
theorem l_icmp_gt {x y : Int32} {off : Int} (tgt : Nat) (hd : decode cL_law pc = .ok (.if_icmp .gt off, 3)) (ht : (pc : Int) + off = (tgt : Int)) (kt : y < x → GL E b L xs σ τ tgt lv st) (kf : ¬ y < x → GL E b L xs σ τ (pc + 3) lv st) : GL E b L xs σ τ pc lv (.int y :: .int x :: st) := fun C ls H locs hl hw => lv_icmp_gt C.1.1 C.1.2.1 hd ht (fun c => kt c C ls H locs hl hw) (fun c => kf c C ls H locs hl hw)
/-- like answers: the law goes on -/
theorem l_same {r : Int32} {off : Int} (tgt : Nat) (hd : decode cL_law pc = .ok (.if_icmp .eq off, 3)) (ht : (pc : Int) + off = (tgt : Int)) (kt : GL E b L xs σ τ tgt lv st) : GL E b L xs σ τ pc lv (.int r :: .int r :: st) := fun C ls H locs hl hw => lv_icmp_eq C.1.1 C.1.2.1 hd ht (fun _ => kt C ls H locs hl hw) (fun c => absurd rfl c)
theorem l_sld {k : Nat} (hk : k < L) (hL : L < 2 ^ 31) (hd : decode cL_law pc = .ok (.iaload, 1)) (kk : GL E b L xs σ τ (pc + 1) lv (.int (xs k) :: st)) : GL E b L xs σ τ pc lv (.int (nI k) :: .ref b :: st) := fun C ls H locs hl hw => va_sld C.1.1 C.1.2.1 C.2.2.2.1.1 C.2.2.2.1.2 (show ¬ AF _ b from Nat.not_le.mpr C.2.2.2.1.2) hw.2.2 (vp_in_nI hk hL) hd (by rw [cN (show k < 2 ^ 31 by omega)]; exact kk C ls H locs hl hw)
theorem l_slen (hd : decode cL_law pc = .ok (.arraylength, 1)) (kk : GL E b L xs σ τ (pc + 1) lv (.int (nI L) :: st)) : GL E b L xs σ τ pc lv (.ref b :: st) := fun C ls H locs hl hw => va_slen C.1.1 C.1.2.1 C.2.2.2.1.1 C.2.2.2.1.2 (show ¬ AF _ b from Nat.not_le.mpr C.2.2.2.1.2) hw.2.2 hd (kk C ls H locs hl hw)
theorem l_out {x : Int32} {dflt lo hi : Int} {offs : Array Int} {len : Nat} (tgt : Nat) (hd : decode cL_law pc = .ok (.tableswitch dflt lo hi offs, len)) (h : x.toInt < lo ∨ hi < x.toInt) (ht : (pc : Int) + dflt = (tgt : Int)) (kk : GL E b L xs σ τ tgt lv st) : GL E b L xs σ τ pc lv (.int x :: st) := fun C ls H locs hl hw => lv_tableOut C.1.1 C.1.2.1 hd h ht (kk C ls H locs hl hw)
theorem l_in {x : Int32} {dflt lo hi : Int} {offs : Array Int} {len : Nat} {off : Int} (tgt : Nat) (hd : decode cL_law pc = .ok (.tableswitch dflt lo hi offs, len)) (h1 : ¬ x.toInt < lo) (h2 : ¬ hi < x.toInt) (ho : offs[(x.toInt - lo).toNat]? = some off) (ht : (pc : Int) + off = (tgt : Int)) (kk : GL E b L xs σ τ tgt lv st) : GL E b L xs σ τ pc lv (.int x :: st) := fun C ls H locs hl hw => lv_tableIn C.1.1 C.1.2.1 hd h1 h2 ho ht (kk C ls H locs hl hw)
theorem l_ret (hd : decode cL_law pc = .ok (.ireturn, 1)) : GL E b L xs σ τ pc lv [.int 1] := by
  intro C ls H locs hl hw
  obtain ⟨hC, ht, hR, hX, hN, hS1, hS2, hD, ha, hr, hk⟩ := C
  refine va_forget (fun q hq => hw.2.2.2.2 q hq) ?_
  refine W.widen (k := 600000) (n := 7302250) (by omega) (by omega) ?_
  rw [ha, hR]
  exact lw_ret hC.1 hC.2.1 hr hk hd
theorem sl_pw {d : SD} {Λ : Lay} {s U : State} {H : Heap} {locs : List Loc} {ρ : Mem} (hS : SL d Λ s) (hN : ∀ x ∈ NWL, va_Nw x s) (hP : va_P d.1 vwCl (wl d Λ ρ) H) (hs : va_S (AF s.heap.size) s.heap H locs) (hU : U.heap = H) (hW : s.WarmedH U.vm) : PW d Λ ρ U :=
  ⟨by rw [hU]; exact hP, va_K.moved hW.alike hS.1, fun x hx => nw_warm hW (List.mem_filter.mp hx).2 (hN x hx), hS.2.1, by rw [hU]; exact hS.2.2.1.warm hW (fun a h1 h2 => hs.2.1 a h1 (Nat.not_le.mpr h1))⟩
theorem wl_in {d : SD} {Λ : Lay} {ρ : Mem} {k : Nat} {q : Nat × va_E} (h : (wl d Λ ρ)[k]? = some q) : k < Λ.1 ∧ q.1 = d.2.2.1 k := by
  by_cases hk : k < Λ.1
  · rw [wl_get hk] at h; cases h; exact ⟨hk, rfl⟩
  · rw [wl_none hk] at h; cases h
theorem l_callX {idx na : Nat} {y : MethodName} {q' : MD} {As rest stk : List Value} {r : Int32} {σ' : Mem} (hL : LkV RL idx y q' na) (hcl : y.cls = RX9) (hM : Me E.1.2.1 E.2.2.1 LX y q' σ (.ref (E.2.2.1.2.2.1 0) :: As) (some r, σ')) (hroom : q'.2.2.2.2.1 + 1 ≤ 11 ∧ 8 + (q'.2.2.1 + 11) + q'.2.2.2.2.2 ≤ 390) (hn : As.length = na) (hs : stk = As.reverse ++ .ref (E.2.2.1.2.2.1 0) :: rest) (hcat : (rest.map fun v => v.category).sum ≤ 8) (hd : decode cL_law pc = .ok (.invokevirtual idx, 3)) (kk : GL E b L xs σ' τ (pc + 3) lv (.int r :: rest)) : GL E b L xs σ τ pc lv stk := by
  intro C ls H locs hl hw
  have C0 := C
  obtain ⟨hC, ht, hR, hX, hN, hS1, hS2, hD, ha, hr, hk⟩ := C
  obtain ⟨⟨hlk, hini, hcode, hdd⟩, hinst, hsel⟩ := hL
  have hrc : ∃ cellB : Cell, H[E.2.2.1.2.2.1 0]? = some cellB ∧ cellB.vm.isStatics = false ∧ E.1.2.2.2.2.vm.findClass y.cls = some cellB.cls := by
    rw [hcl]
    exact va_recv (ci := 9) hS1.1 hw.1 rfl ((wl_get nLX_0).trans (by rw [cel_obj kLX_0 (by decide)]))
  have hp : PreV E.1.2.2.2.2 H y.cls (E.2.2.1.2.2.1 0) (va_Pc (.ref (E.2.2.1.2.2.1 0) :: As) (PW E.2.2.1 LX σ)) As := ⟨pw_blind, hrc, fun U hU hW => ⟨rfl, sl_pw hS1 hN hw.1 hw.2.2 hU hW⟩⟩
  have hrun : va_Run E.1.1 E.1.2.1 E.1.2.2.1 E.1.2.2.2.1 E.1.2.2.2.2 E.2.1.1 E.2.1.2.1 E.2.1.2.2.1 E.2.1.2.2.2.1 E.2.1.2.2.2.2 H locs 112 7495 0 0 (F0 E.2.1.1 pc ls stk) rest (QR E.2.2.1 LX (some r, σ') (Value.ref (E.2.2.1.2.2.1 0) :: As).toArray) (AA E.2.2.1 LX) := by
    rcases hlk with h1 | ⟨h, h1⟩
    · exact va_runV ⟨hC.1, hC.2.1, hC.2.2.1, hC.2.2.2, ht⟩ hM ⟨callB_of na ht (gIn0 hcode) rfl rfl rfl (ht _ hini) (ht _ h1) hdd ⟨by rw [hR]; exact hroom.1, by rw [hR]; exact hroom.2⟩, ht _ hinst, ht _ hsel⟩ hp rfl hn hl.1 hs (lv_room hcat) hd ⟨by rw [hR]; exact Nat.le_of_ble_eq_true rfl, by rw [hR]; exact Nat.le_of_ble_eq_true rfl⟩
    · exact va_runVN ⟨hC.1, hC.2.1, hC.2.2.1, hC.2.2.2, ht⟩ hM ⟨va_cnB na ht (gIn0 hcode) rfl rfl rfl (hN _ h1) (ht _ hini) hdd ⟨by rw [hR]; exact hroom.1, by rw [hR]; exact hroom.2⟩, ht _ hinst, ht _ hsel⟩ hp rfl hn hl.1 hs (lv_room hcat) hd ⟨by rw [hR]; exact Nat.le_of_ble_eq_true rfl, by rw [hR]; exact Nat.le_of_ble_eq_true rfl⟩
  intro T hT X
  obtain ⟨v, st₀, t, T', L', h0, X', hL', e1, e2, ⟨⟨hv, hP'⟩, hz, hkk⟩, stp⟩ := hrun T hT X
  cases hv
  rw [h0] at hz hkk
  have hfar : ∀ q, AA E.2.2.1 LX q → AF E.1.2.2.2.2.heap.size q := fun q ⟨i, hi, e⟩ => by rw [e]; exact hS1.2.2.2 i hi
  have hP2 : va_P E.2.2.2.1 vwCl (wl E.2.2.2 LM τ) T'.heap := hw.2.1.kept (fun k q hq => by
    obtain ⟨a1, a2⟩ := wl_in hq
    rw [e1]
    exact hkk q.1 ((hw.2.1 k q hq).lt) (fun ⟨i, hi, e⟩ => by rw [a2] at e; exact hD i k hi a1 e.symm))
  obtain ⟨t2, a1, b1⟩ := kk C0 ls T'.heap (locs ++ L') hl ⟨by rw [e1]; exact hP', hP2, Nat.le_trans hw.2.2.1 (by rw [e1]; exact hz), fun z h1 h2 => by rw [e1, hkk z (Nat.lt_of_lt_of_le h1 hw.2.2.1) (fun h => h2 (hfar z h))]; exact hw.2.2.2.1 z h1 h2, fun z hz2 => by
      rcases List.mem_append.mp hz2 with h | h
      · exact hw.2.2.2.2 z h
      · exact hfar _ (hL' z h)⟩ T' rfl X'
  exact ⟨t2, stp t2 a1, b1⟩
theorem l_callM {idx na : Nat} {y : MethodName} {q' : MD} {As rest stk : List Value} {r : Int32} {τ' : Mem} (hL : LkV RL idx y q' na) (hcl : y.cls = RX10) (hM : Me E.1.2.1 E.2.2.2 LM y q' τ (.ref (E.2.2.2.2.2.1 0) :: As) (some r, τ')) (hroom : q'.2.2.2.2.1 + 1 ≤ 11 ∧ 8 + (q'.2.2.1 + 11) + q'.2.2.2.2.2 ≤ 390) (hn : As.length = na) (hs : stk = As.reverse ++ .ref (E.2.2.2.2.2.1 0) :: rest) (hcat : (rest.map fun v => v.category).sum ≤ 8) (hd : decode cL_law pc = .ok (.invokevirtual idx, 3)) (kk : GL E b L xs σ τ' (pc + 3) lv (.int r :: rest)) : GL E b L xs σ τ pc lv stk := by
  intro C ls H locs hl hw
  have C0 := C
  obtain ⟨hC, ht, hR, hX, hN, hS1, hS2, hD, ha, hr, hk⟩ := C
  obtain ⟨⟨hlk, hini, hcode, hdd⟩, hinst, hsel⟩ := hL
  have hrc : ∃ cellB : Cell, H[E.2.2.2.2.2.1 0]? = some cellB ∧ cellB.vm.isStatics = false ∧ E.1.2.2.2.2.vm.findClass y.cls = some cellB.cls := by
    rw [hcl]
    exact va_recv (ci := 10) hS2.1 hw.2.1 rfl ((wl_get nLM_0).trans (by rw [cel_obj kLM_0 (by decide)]))
  have hp : PreV E.1.2.2.2.2 H y.cls (E.2.2.2.2.2.1 0) (va_Pc (.ref (E.2.2.2.2.2.1 0) :: As) (PW E.2.2.2 LM τ)) As := ⟨pw_blind, hrc, fun U hU hW => ⟨rfl, sl_pw hS2 hN hw.2.1 hw.2.2 hU hW⟩⟩
  have hrun : va_Run E.1.1 E.1.2.1 E.1.2.2.1 E.1.2.2.2.1 E.1.2.2.2.2 E.2.1.1 E.2.1.2.1 E.2.1.2.2.1 E.2.1.2.2.2.1 E.2.1.2.2.2.2 H locs 112 7495 0 0 (F0 E.2.1.1 pc ls stk) rest (QR E.2.2.2 LM (some r, τ') (Value.ref (E.2.2.2.2.2.1 0) :: As).toArray) (AA E.2.2.2 LM) := by
    rcases hlk with h1 | ⟨h, h1⟩
    · exact va_runV ⟨hC.1, hC.2.1, hC.2.2.1, hC.2.2.2, ht⟩ hM ⟨callB_of na ht (gIn0 hcode) rfl rfl rfl (ht _ hini) (ht _ h1) hdd ⟨by rw [hR]; exact hroom.1, by rw [hR]; exact hroom.2⟩, ht _ hinst, ht _ hsel⟩ hp rfl hn hl.1 hs (lv_room hcat) hd ⟨by rw [hR]; exact Nat.le_of_ble_eq_true rfl, by rw [hR]; exact Nat.le_of_ble_eq_true rfl⟩
    · exact va_runVN ⟨hC.1, hC.2.1, hC.2.2.1, hC.2.2.2, ht⟩ hM ⟨va_cnB na ht (gIn0 hcode) rfl rfl rfl (hN _ h1) (ht _ hini) hdd ⟨by rw [hR]; exact hroom.1, by rw [hR]; exact hroom.2⟩, ht _ hinst, ht _ hsel⟩ hp rfl hn hl.1 hs (lv_room hcat) hd ⟨by rw [hR]; exact Nat.le_of_ble_eq_true rfl, by rw [hR]; exact Nat.le_of_ble_eq_true rfl⟩
  intro T hT X
  obtain ⟨v, st₀, t, T', L', h0, X', hL', e1, e2, ⟨⟨hv, hP'⟩, hz, hkk⟩, stp⟩ := hrun T hT X
  cases hv
  rw [h0] at hz hkk
  have hfar : ∀ q, AA E.2.2.2 LM q → AF E.1.2.2.2.2.heap.size q := fun q ⟨i, hi, e⟩ => by rw [e]; exact hS2.2.2.2 i hi
  have hP2 : va_P E.2.2.1.1 vwCl (wl E.2.2.1 LX σ) T'.heap := hw.1.kept (fun k q hq => by
    obtain ⟨a1, a2⟩ := wl_in hq
    rw [e1]
    exact hkk q.1 ((hw.1 k q hq).lt) (fun ⟨i, hi, e⟩ => by rw [a2] at e; exact hD k i a1 hi e))
  obtain ⟨t2, a1, b1⟩ := kk C0 ls T'.heap (locs ++ L') hl ⟨hP2, by rw [e1]; exact hP', Nat.le_trans hw.2.2.1 (by rw [e1]; exact hz), fun z h1 h2 => by rw [e1, hkk z (Nat.lt_of_lt_of_le h1 hw.2.2.1) (fun h => h2 (hfar z h))]; exact hw.2.2.2.1 z h1 h2, fun z hz2 => by
      rcases List.mem_append.mp hz2 with h | h
      · exact hw.2.2.2.2 z h
      · exact hfar _ (hL' z h)⟩ T' rfl X'
  exact ⟨t2, stp t2 a1, b1⟩
end LROWS
theorem v_329 : Cond.methodLink RL 13 yX9_arch ∈ TBL := mTi 329 (by decide +kernel) rfl
theorem v_51 : Cond.initialized RX9 ∈ TBL := mTi 51 (by decide +kernel) rfl
theorem v_332 : Cond.code yX9_arch qX9_arch.2.1 qX9_arch.2.2.1 qX9_arch.2.2.2.1 ∈ TBL := mTi 332 (by decide +kernel) rfl
theorem v_330 : Cond.instanceMethod yX9_arch ∈ TBL := mTi 330 (by decide +kernel) rfl
theorem v_331 : Cond.selects RX9 yX9_arch yX9_arch ∈ TBL := mTi 331 (by decide +kernel) rfl
theorem lL_13 : LkV RL 13 yX9_arch qX9_arch 1 := ⟨⟨Or.inl v_329, v_51, v_332, by decide +kernel⟩, v_330, v_331⟩
theorem v_887 : Cond.methodLink RL 17 yX10_arch ∈ TBL := mTi 887 (by decide +kernel) rfl
theorem v_61 : Cond.initialized RX10 ∈ TBL := mTi 61 (by decide +kernel) rfl
theorem v_890 : Cond.code yX10_arch qX10_arch.2.1 qX10_arch.2.2.1 qX10_arch.2.2.2.1 ∈ TBL := mTi 890 (by decide +kernel) rfl
theorem v_888 : Cond.instanceMethod yX10_arch ∈ TBL := mTi 888 (by decide +kernel) rfl
theorem v_889 : Cond.selects RX10 yX10_arch yX10_arch ∈ TBL := mTi 889 (by decide +kernel) rfl
theorem lL_17 : LkV RL 17 yX10_arch qX10_arch 1 := ⟨⟨Or.inl v_887, v_61, v_890, by decide +kernel⟩, v_888, v_889⟩
set_option maxRecDepth 100000 in
theorem case_0 {E : XL} {b L : Nat} {xs : Nat → Int32} {σ τ : Mem} {k : Nat} (hL : L ≤ 3072) (hk : k + 6 ≤ L) (h : RelE σ τ) (K : ∀ σ' τ', RelE σ' τ' → GL E b L xs σ' τ' 832 [(3, .int (nI k)), (2, .ref (E.2.2.2.2.2.1 0)), (1, .ref (E.2.2.1.2.2.1 0)), (0, .ref b)] []) : GL E b L xs σ τ 136 [(3, .int (nI k)), (2, .ref (E.2.2.2.2.2.1 0)), (1, .ref (E.2.2.1.2.2.1 0)), (0, .ref b)] [] := by
  obtain ⟨r, σ2, τ2, e1, e2, hR⟩ := op_arch (xs (k + 1)) h
  refine l_aload_n 2 dL_law_136 rfl rfl ?_
  refine l_aload_n 3 dL_law_137 rfl rfl ?_
  refine l_iload_n 0 dL_law_138 rfl rfl ?_
  refine l_iconst (v := nI 1) dL_law_139 (by decide) ?_
  refine l_iadd (nI (k + 1)) dL_law_140 (nI_add k 1) ?_
  refine l_sld (by omega) (by omega) dL_law_141 ?_
  refine l_callX (As := [.int (xs (k + 1))]) (rest := []) lL_13 rfl (ceX9_arch _ _ σ (xs (k + 1)) e1) ⟨Nat.le_of_ble_eq_true rfl, Nat.le_of_ble_eq_true rfl⟩ rfl rfl (Nat.le_of_ble_eq_true rfl) dL_law_142 ?_
  refine l_aload_n 1 dL_law_145 rfl rfl ?_
  refine l_aload_n 3 dL_law_146 rfl rfl ?_
  refine l_iload_n 0 dL_law_147 rfl rfl ?_
  refine l_iconst (v := nI 1) dL_law_148 (by decide) ?_
  refine l_iadd (nI (k + 1)) dL_law_149 (nI_add k 1) ?_
  refine l_sld (by omega) (by omega) dL_law_150 ?_
  refine l_callM (As := [.int (xs (k + 1))]) (rest := [.int r]) lL_17 rfl (ceX10_arch _ _ τ (xs (k + 1)) e2) ⟨Nat.le_of_ble_eq_true rfl, Nat.le_of_ble_eq_true rfl⟩ rfl rfl (Nat.le_of_ble_eq_true rfl) dL_law_151 ?_
  refine l_same 832 dL_law_154 (by decide) ?_
  exact K _ _ hR
theorem v_342 : Cond.methodLink RL 18 yX9_set ∈ TBL := mTi 342 (by decide +kernel) rfl
theorem v_345 : Cond.code yX9_set qX9_set.2.1 qX9_set.2.2.1 qX9_set.2.2.2.1 ∈ TBL := mTi 345 (by decide +kernel) rfl
theorem v_343 : Cond.instanceMethod yX9_set ∈ TBL := mTi 343 (by decide +kernel) rfl
theorem v_344 : Cond.selects RX9 yX9_set yX9_set ∈ TBL := mTi 344 (by decide +kernel) rfl
theorem lL_18 : LkV RL 18 yX9_set qX9_set 3 := ⟨⟨Or.inl v_342, v_51, v_345, by decide +kernel⟩, v_343, v_344⟩
theorem v_896 : Cond.methodLink RL 22 yX10_set ∈ TBL := mTi 896 (by decide +kernel) rfl
theorem v_899 : Cond.code yX10_set qX10_set.2.1 qX10_set.2.2.1 qX10_set.2.2.2.1 ∈ TBL := mTi 899 (by decide +kernel) rfl
theorem v_897 : Cond.instanceMethod yX10_set ∈ TBL := mTi 897 (by decide +kernel) rfl
theorem v_898 : Cond.selects RX10 yX10_set yX10_set ∈ TBL := mTi 898 (by decide +kernel) rfl
theorem lL_22 : LkV RL 22 yX10_set qX10_set 3 := ⟨⟨Or.inl v_896, v_61, v_899, by decide +kernel⟩, v_897, v_898⟩
set_option maxRecDepth 100000 in
theorem case_1 {E : XL} {b L : Nat} {xs : Nat → Int32} {σ τ : Mem} {k : Nat} (hL : L ≤ 3072) (hk : k + 6 ≤ L) (h : RelE σ τ) (K : ∀ σ' τ', RelE σ' τ' → GL E b L xs σ' τ' 832 [(3, .int (nI k)), (2, .ref (E.2.2.2.2.2.1 0)), (1, .ref (E.2.2.1.2.2.1 0)), (0, .ref b)] []) : GL E b L xs σ τ 159 [(3, .int (nI k)), (2, .ref (E.2.2.2.2.2.1 0)), (1, .ref (E.2.2.1.2.2.1 0)), (0, .ref b)] [] := by
  obtain ⟨r, σ2, τ2, e1, e2, hR⟩ := op_set (xs (k + 1)) (xs (k + 2)) (xs (k + 3)) h
  refine l_aload_n 2 dL_law_159 rfl rfl ?_
  refine l_aload_n 3 dL_law_160 rfl rfl ?_
  refine l_iload_n 0 dL_law_161 rfl rfl ?_
  refine l_iconst (v := nI 1) dL_law_162 (by decide) ?_
  refine l_iadd (nI (k + 1)) dL_law_163 (nI_add k 1) ?_
  refine l_sld (by omega) (by omega) dL_law_164 ?_
  refine l_aload_n 3 dL_law_165 rfl rfl ?_
  refine l_iload_n 0 dL_law_166 rfl rfl ?_
  refine l_iconst (v := nI 2) dL_law_167 (by decide) ?_
  refine l_iadd (nI (k + 2)) dL_law_168 (nI_add k 2) ?_
  refine l_sld (by omega) (by omega) dL_law_169 ?_
  refine l_aload_n 3 dL_law_170 rfl rfl ?_
  refine l_iload_n 0 dL_law_171 rfl rfl ?_
  refine l_iconst (v := nI 3) dL_law_172 (by decide) ?_
  refine l_iadd (nI (k + 3)) dL_law_173 (nI_add k 3) ?_
  refine l_sld (by omega) (by omega) dL_law_174 ?_
  refine l_callX (As := [.int (xs (k + 1)), .int (xs (k + 2)), .int (xs (k + 3))]) (rest := []) lL_18 rfl (ceX9_set _ _ σ (xs (k + 1)) (xs (k + 2)) (xs (k + 3)) e1) ⟨Nat.le_of_ble_eq_true rfl, Nat.le_of_ble_eq_true rfl⟩ rfl rfl (Nat.le_of_ble_eq_true rfl) dL_law_175 ?_
  refine l_aload_n 1 dL_law_178 rfl rfl ?_
  refine l_aload_n 3 dL_law_179 rfl rfl ?_
  refine l_iload_n 0 dL_law_180 rfl rfl ?_
  refine l_iconst (v := nI 1) dL_law_181 (by decide) ?_
  refine l_iadd (nI (k + 1)) dL_law_182 (nI_add k 1) ?_
  refine l_sld (by omega) (by omega) dL_law_183 ?_
  refine l_aload_n 3 dL_law_184 rfl rfl ?_
  refine l_iload_n 0 dL_law_185 rfl rfl ?_
  refine l_iconst (v := nI 2) dL_law_186 (by decide) ?_
  refine l_iadd (nI (k + 2)) dL_law_187 (nI_add k 2) ?_
  refine l_sld (by omega) (by omega) dL_law_188 ?_
  refine l_aload_n 3 dL_law_189 rfl rfl ?_
  refine l_iload_n 0 dL_law_190 rfl rfl ?_
  refine l_iconst (v := nI 3) dL_law_191 (by decide) ?_
  refine l_iadd (nI (k + 3)) dL_law_192 (nI_add k 3) ?_
  refine l_sld (by omega) (by omega) dL_law_193 ?_
  refine l_callM (As := [.int (xs (k + 1)), .int (xs (k + 2)), .int (xs (k + 3))]) (rest := [.int r]) lL_22 rfl (ceX10_set _ _ τ (xs (k + 1)) (xs (k + 2)) (xs (k + 3)) e2) ⟨Nat.le_of_ble_eq_true rfl, Nat.le_of_ble_eq_true rfl⟩ rfl rfl (Nat.le_of_ble_eq_true rfl) dL_law_194 ?_
  refine l_same 832 dL_law_197 (by decide) ?_
  exact K _ _ hR
theorem v_356 : Cond.methodLink RL 23 yX9_about ∈ TBL := mTi 356 (by decide +kernel) rfl
theorem v_359 : Cond.code yX9_about qX9_about.2.1 qX9_about.2.2.1 qX9_about.2.2.2.1 ∈ TBL := mTi 359 (by decide +kernel) rfl
theorem v_357 : Cond.instanceMethod yX9_about ∈ TBL := mTi 357 (by decide +kernel) rfl
theorem v_358 : Cond.selects RX9 yX9_about yX9_about ∈ TBL := mTi 358 (by decide +kernel) rfl
theorem lL_23 : LkV RL 23 yX9_about qX9_about 2 := ⟨⟨Or.inl v_356, v_51, v_359, by decide +kernel⟩, v_357, v_358⟩
theorem v_905 : Cond.methodLink RL 27 yX10_about ∈ TBL := mTi 905 (by decide +kernel) rfl
theorem v_908 : Cond.code yX10_about qX10_about.2.1 qX10_about.2.2.1 qX10_about.2.2.2.1 ∈ TBL := mTi 908 (by decide +kernel) rfl
theorem v_906 : Cond.instanceMethod yX10_about ∈ TBL := mTi 906 (by decide +kernel) rfl
theorem v_907 : Cond.selects RX10 yX10_about yX10_about ∈ TBL := mTi 907 (by decide +kernel) rfl
theorem lL_27 : LkV RL 27 yX10_about qX10_about 2 := ⟨⟨Or.inl v_905, v_61, v_908, by decide +kernel⟩, v_906, v_907⟩
set_option maxRecDepth 100000 in
theorem case_2 {E : XL} {b L : Nat} {xs : Nat → Int32} {σ τ : Mem} {k : Nat} (hL : L ≤ 3072) (hk : k + 6 ≤ L) (h : RelE σ τ) (K : ∀ σ' τ', RelE σ' τ' → GL E b L xs σ' τ' 832 [(3, .int (nI k)), (2, .ref (E.2.2.2.2.2.1 0)), (1, .ref (E.2.2.1.2.2.1 0)), (0, .ref b)] []) : GL E b L xs σ τ 202 [(3, .int (nI k)), (2, .ref (E.2.2.2.2.2.1 0)), (1, .ref (E.2.2.1.2.2.1 0)), (0, .ref b)] [] := by
  obtain ⟨r, σ2, τ2, e1, e2, hR⟩ := op_about (xs (k + 1)) (xs (k + 2)) h
  refine l_aload_n 2 dL_law_202 rfl rfl ?_
  refine l_aload_n 3 dL_law_203 rfl rfl ?_
  refine l_iload_n 0 dL_law_204 rfl rfl ?_
  refine l_iconst (v := nI 1) dL_law_205 (by decide) ?_
  refine l_iadd (nI (k + 1)) dL_law_206 (nI_add k 1) ?_
  refine l_sld (by omega) (by omega) dL_law_207 ?_
  refine l_aload_n 3 dL_law_208 rfl rfl ?_
  refine l_iload_n 0 dL_law_209 rfl rfl ?_
  refine l_iconst (v := nI 2) dL_law_210 (by decide) ?_
  refine l_iadd (nI (k + 2)) dL_law_211 (nI_add k 2) ?_
  refine l_sld (by omega) (by omega) dL_law_212 ?_
  refine l_callX (As := [.int (xs (k + 1)), .int (xs (k + 2))]) (rest := []) lL_23 rfl (ceX9_about _ _ σ (xs (k + 1)) (xs (k + 2)) e1) ⟨Nat.le_of_ble_eq_true rfl, Nat.le_of_ble_eq_true rfl⟩ rfl rfl (Nat.le_of_ble_eq_true rfl) dL_law_213 ?_
  refine l_aload_n 1 dL_law_216 rfl rfl ?_
  refine l_aload_n 3 dL_law_217 rfl rfl ?_
  refine l_iload_n 0 dL_law_218 rfl rfl ?_
  refine l_iconst (v := nI 1) dL_law_219 (by decide) ?_
  refine l_iadd (nI (k + 1)) dL_law_220 (nI_add k 1) ?_
  refine l_sld (by omega) (by omega) dL_law_221 ?_
  refine l_aload_n 3 dL_law_222 rfl rfl ?_
  refine l_iload_n 0 dL_law_223 rfl rfl ?_
  refine l_iconst (v := nI 2) dL_law_224 (by decide) ?_
  refine l_iadd (nI (k + 2)) dL_law_225 (nI_add k 2) ?_
  refine l_sld (by omega) (by omega) dL_law_226 ?_
  refine l_callM (As := [.int (xs (k + 1)), .int (xs (k + 2))]) (rest := [.int r]) lL_27 rfl (ceX10_about _ _ τ (xs (k + 1)) (xs (k + 2)) e2) ⟨Nat.le_of_ble_eq_true rfl, Nat.le_of_ble_eq_true rfl⟩ rfl rfl (Nat.le_of_ble_eq_true rfl) dL_law_227 ?_
  refine l_same 832 dL_law_230 (by decide) ?_
  exact K _ _ hR
theorem v_416 : Cond.methodLink RL 28 yX9_isOf ∈ TBL := mTi 416 (by decide +kernel) rfl
theorem v_419 : Cond.code yX9_isOf qX9_isOf.2.1 qX9_isOf.2.2.1 qX9_isOf.2.2.2.1 ∈ TBL := mTi 419 (by decide +kernel) rfl
theorem v_417 : Cond.instanceMethod yX9_isOf ∈ TBL := mTi 417 (by decide +kernel) rfl
theorem v_418 : Cond.selects RX9 yX9_isOf yX9_isOf ∈ TBL := mTi 418 (by decide +kernel) rfl
theorem lL_28 : LkV RL 28 yX9_isOf qX9_isOf 2 := ⟨⟨Or.inl v_416, v_51, v_419, by decide +kernel⟩, v_417, v_418⟩
theorem v_934 : Cond.methodLink RL 31 yX10_isOf ∈ TBL := mTi 934 (by decide +kernel) rfl
theorem v_937 : Cond.code yX10_isOf qX10_isOf.2.1 qX10_isOf.2.2.1 qX10_isOf.2.2.2.1 ∈ TBL := mTi 937 (by decide +kernel) rfl
theorem v_935 : Cond.instanceMethod yX10_isOf ∈ TBL := mTi 935 (by decide +kernel) rfl
theorem v_936 : Cond.selects RX10 yX10_isOf yX10_isOf ∈ TBL := mTi 936 (by decide +kernel) rfl
theorem lL_31 : LkV RL 31 yX10_isOf qX10_isOf 2 := ⟨⟨Or.inl v_934, v_61, v_937, by decide +kernel⟩, v_935, v_936⟩
set_option maxRecDepth 100000 in
theorem case_3 {E : XL} {b L : Nat} {xs : Nat → Int32} {σ τ : Mem} {k : Nat} (hL : L ≤ 3072) (hk : k + 6 ≤ L) (h : RelE σ τ) (K : ∀ σ' τ', RelE σ' τ' → GL E b L xs σ' τ' 832 [(3, .int (nI k)), (2, .ref (E.2.2.2.2.2.1 0)), (1, .ref (E.2.2.1.2.2.1 0)), (0, .ref b)] []) : GL E b L xs σ τ 235 [(3, .int (nI k)), (2, .ref (E.2.2.2.2.2.1 0)), (1, .ref (E.2.2.1.2.2.1 0)), (0, .ref b)] [] := by
  obtain ⟨r, e1, e2⟩ := op_isOf (xs (k + 1)) (xs (k + 2)) h
  refine l_aload_n 2 dL_law_235 rfl rfl ?_
  refine l_aload_n 3 dL_law_236 rfl rfl ?_
  refine l_iload_n 0 dL_law_237 rfl rfl ?_
  refine l_iconst (v := nI 1) dL_law_238 (by decide) ?_
  refine l_iadd (nI (k + 1)) dL_law_239 (nI_add k 1) ?_
  refine l_sld (by omega) (by omega) dL_law_240 ?_
  refine l_aload_n 3 dL_law_241 rfl rfl ?_
  refine l_iload_n 0 dL_law_242 rfl rfl ?_
  refine l_iconst (v := nI 2) dL_law_243 (by decide) ?_
  refine l_iadd (nI (k + 2)) dL_law_244 (nI_add k 2) ?_
  refine l_sld (by omega) (by omega) dL_law_245 ?_
  refine l_callX (As := [.int (xs (k + 1)), .int (xs (k + 2))]) (rest := []) lL_28 rfl (ceX9_isOf _ _ σ (xs (k + 1)) (xs (k + 2)) e1) ⟨Nat.le_of_ble_eq_true rfl, Nat.le_of_ble_eq_true rfl⟩ rfl rfl (Nat.le_of_ble_eq_true rfl) dL_law_246 ?_
  refine l_aload_n 1 dL_law_249 rfl rfl ?_
  refine l_aload_n 3 dL_law_250 rfl rfl ?_
  refine l_iload_n 0 dL_law_251 rfl rfl ?_
  refine l_iconst (v := nI 1) dL_law_252 (by decide) ?_
  refine l_iadd (nI (k + 1)) dL_law_253 (nI_add k 1) ?_
  refine l_sld (by omega) (by omega) dL_law_254 ?_
  refine l_aload_n 3 dL_law_255 rfl rfl ?_
  refine l_iload_n 0 dL_law_256 rfl rfl ?_
  refine l_iconst (v := nI 2) dL_law_257 (by decide) ?_
  refine l_iadd (nI (k + 2)) dL_law_258 (nI_add k 2) ?_
  refine l_sld (by omega) (by omega) dL_law_259 ?_
  refine l_callM (As := [.int (xs (k + 1)), .int (xs (k + 2))]) (rest := [.int r]) lL_31 rfl (ceX10_isOf _ _ τ (xs (k + 1)) (xs (k + 2)) e2) ⟨Nat.le_of_ble_eq_true rfl, Nat.le_of_ble_eq_true rfl⟩ rfl rfl (Nat.le_of_ble_eq_true rfl) dL_law_260 ?_
  refine l_same 832 dL_law_263 (by decide) ?_
  exact K _ _ h
theorem v_424 : Cond.methodLink RL 32 yX9_sheet ∈ TBL := mTi 424 (by decide +kernel) rfl
theorem v_427 : Cond.code yX9_sheet qX9_sheet.2.1 qX9_sheet.2.2.1 qX9_sheet.2.2.2.1 ∈ TBL := mTi 427 (by decide +kernel) rfl
theorem v_425 : Cond.instanceMethod yX9_sheet ∈ TBL := mTi 425 (by decide +kernel) rfl
theorem v_426 : Cond.selects RX9 yX9_sheet yX9_sheet ∈ TBL := mTi 426 (by decide +kernel) rfl
theorem lL_32 : LkV RL 32 yX9_sheet qX9_sheet 3 := ⟨⟨Or.inl v_424, v_51, v_427, by decide +kernel⟩, v_425, v_426⟩
theorem v_938 : Cond.methodLink RL 35 yX10_sheet ∈ TBL := mTi 938 (by decide +kernel) rfl
theorem v_941 : Cond.code yX10_sheet qX10_sheet.2.1 qX10_sheet.2.2.1 qX10_sheet.2.2.2.1 ∈ TBL := mTi 941 (by decide +kernel) rfl
theorem v_939 : Cond.instanceMethod yX10_sheet ∈ TBL := mTi 939 (by decide +kernel) rfl
theorem v_940 : Cond.selects RX10 yX10_sheet yX10_sheet ∈ TBL := mTi 940 (by decide +kernel) rfl
theorem lL_35 : LkV RL 35 yX10_sheet qX10_sheet 3 := ⟨⟨Or.inl v_938, v_61, v_941, by decide +kernel⟩, v_939, v_940⟩
set_option maxRecDepth 100000 in
theorem case_4 {E : XL} {b L : Nat} {xs : Nat → Int32} {σ τ : Mem} {k : Nat} (hL : L ≤ 3072) (hk : k + 6 ≤ L) (h : RelE σ τ) (K : ∀ σ' τ', RelE σ' τ' → GL E b L xs σ' τ' 832 [(3, .int (nI k)), (2, .ref (E.2.2.2.2.2.1 0)), (1, .ref (E.2.2.1.2.2.1 0)), (0, .ref b)] []) : GL E b L xs σ τ 268 [(3, .int (nI k)), (2, .ref (E.2.2.2.2.2.1 0)), (1, .ref (E.2.2.1.2.2.1 0)), (0, .ref b)] [] := by
  obtain ⟨r, σ2, τ2, e1, e2, hR⟩ := op_sheet (xs (k + 1)) (xs (k + 2)) (xs (k + 3)) h
  refine l_aload_n 2 dL_law_268 rfl rfl ?_
  refine l_aload_n 3 dL_law_269 rfl rfl ?_
  refine l_iload_n 0 dL_law_270 rfl rfl ?_
  refine l_iconst (v := nI 1) dL_law_271 (by decide) ?_
  refine l_iadd (nI (k + 1)) dL_law_272 (nI_add k 1) ?_
  refine l_sld (by omega) (by omega) dL_law_273 ?_
  refine l_aload_n 3 dL_law_274 rfl rfl ?_
  refine l_iload_n 0 dL_law_275 rfl rfl ?_
  refine l_iconst (v := nI 2) dL_law_276 (by decide) ?_
  refine l_iadd (nI (k + 2)) dL_law_277 (nI_add k 2) ?_
  refine l_sld (by omega) (by omega) dL_law_278 ?_
  refine l_aload_n 3 dL_law_279 rfl rfl ?_
  refine l_iload_n 0 dL_law_280 rfl rfl ?_
  refine l_iconst (v := nI 3) dL_law_281 (by decide) ?_
  refine l_iadd (nI (k + 3)) dL_law_282 (nI_add k 3) ?_
  refine l_sld (by omega) (by omega) dL_law_283 ?_
  refine l_callX (As := [.int (xs (k + 1)), .int (xs (k + 2)), .int (xs (k + 3))]) (rest := []) lL_32 rfl (ceX9_sheet _ _ σ (xs (k + 1)) (xs (k + 2)) (xs (k + 3)) e1) ⟨Nat.le_of_ble_eq_true rfl, Nat.le_of_ble_eq_true rfl⟩ rfl rfl (Nat.le_of_ble_eq_true rfl) dL_law_284 ?_
  refine l_aload_n 1 dL_law_287 rfl rfl ?_
  refine l_aload_n 3 dL_law_288 rfl rfl ?_
  refine l_iload_n 0 dL_law_289 rfl rfl ?_
  refine l_iconst (v := nI 1) dL_law_290 (by decide) ?_
  refine l_iadd (nI (k + 1)) dL_law_291 (nI_add k 1) ?_
  refine l_sld (by omega) (by omega) dL_law_292 ?_
  refine l_aload_n 3 dL_law_293 rfl rfl ?_
  refine l_iload_n 0 dL_law_294 rfl rfl ?_
  refine l_iconst (v := nI 2) dL_law_295 (by decide) ?_
  refine l_iadd (nI (k + 2)) dL_law_296 (nI_add k 2) ?_
  refine l_sld (by omega) (by omega) dL_law_297 ?_
  refine l_aload_n 3 dL_law_298 rfl rfl ?_
  refine l_iload_n 0 dL_law_299 rfl rfl ?_
  refine l_iconst (v := nI 3) dL_law_300 (by decide) ?_
  refine l_iadd (nI (k + 3)) dL_law_301 (nI_add k 3) ?_
  refine l_sld (by omega) (by omega) dL_law_302 ?_
  refine l_callM (As := [.int (xs (k + 1)), .int (xs (k + 2)), .int (xs (k + 3))]) (rest := [.int r]) lL_35 rfl (ceX10_sheet _ _ τ (xs (k + 1)) (xs (k + 2)) (xs (k + 3)) e2) ⟨Nat.le_of_ble_eq_true rfl, Nat.le_of_ble_eq_true rfl⟩ rfl rfl (Nat.le_of_ble_eq_true rfl) dL_law_303 ?_
  refine l_same 832 dL_law_306 (by decide) ?_
  exact K _ _ hR
theorem v_436 : Cond.methodLink RL 36 yX9_enter ∈ TBL := mTi 436 (by decide +kernel) rfl
theorem v_439 : Cond.code yX9_enter qX9_enter.2.1 qX9_enter.2.2.1 qX9_enter.2.2.2.1 ∈ TBL := mTi 439 (by decide +kernel) rfl
theorem v_437 : Cond.instanceMethod yX9_enter ∈ TBL := mTi 437 (by decide +kernel) rfl
theorem v_438 : Cond.selects RX9 yX9_enter yX9_enter ∈ TBL := mTi 438 (by decide +kernel) rfl
theorem lL_36 : LkV RL 36 yX9_enter qX9_enter 3 := ⟨⟨Or.inl v_436, v_51, v_439, by decide +kernel⟩, v_437, v_438⟩
theorem v_946 : Cond.methodLink RL 39 yX10_enter ∈ TBL := mTi 946 (by decide +kernel) rfl
theorem v_949 : Cond.code yX10_enter qX10_enter.2.1 qX10_enter.2.2.1 qX10_enter.2.2.2.1 ∈ TBL := mTi 949 (by decide +kernel) rfl
theorem v_947 : Cond.instanceMethod yX10_enter ∈ TBL := mTi 947 (by decide +kernel) rfl
theorem v_948 : Cond.selects RX10 yX10_enter yX10_enter ∈ TBL := mTi 948 (by decide +kernel) rfl
theorem lL_39 : LkV RL 39 yX10_enter qX10_enter 3 := ⟨⟨Or.inl v_946, v_61, v_949, by decide +kernel⟩, v_947, v_948⟩
set_option maxRecDepth 100000 in
theorem case_5 {E : XL} {b L : Nat} {xs : Nat → Int32} {σ τ : Mem} {k : Nat} (hL : L ≤ 3072) (hk : k + 6 ≤ L) (h : RelE σ τ) (K : ∀ σ' τ', RelE σ' τ' → GL E b L xs σ' τ' 832 [(3, .int (nI k)), (2, .ref (E.2.2.2.2.2.1 0)), (1, .ref (E.2.2.1.2.2.1 0)), (0, .ref b)] []) : GL E b L xs σ τ 311 [(3, .int (nI k)), (2, .ref (E.2.2.2.2.2.1 0)), (1, .ref (E.2.2.1.2.2.1 0)), (0, .ref b)] [] := by
  obtain ⟨r, σ2, τ2, e1, e2, hR⟩ := op_enter (xs (k + 1)) (xs (k + 2)) (xs (k + 3)) h
  refine l_aload_n 2 dL_law_311 rfl rfl ?_
  refine l_aload_n 3 dL_law_312 rfl rfl ?_
  refine l_iload_n 0 dL_law_313 rfl rfl ?_
  refine l_iconst (v := nI 1) dL_law_314 (by decide) ?_
  refine l_iadd (nI (k + 1)) dL_law_315 (nI_add k 1) ?_
  refine l_sld (by omega) (by omega) dL_law_316 ?_
  refine l_aload_n 3 dL_law_317 rfl rfl ?_
  refine l_iload_n 0 dL_law_318 rfl rfl ?_
  refine l_iconst (v := nI 2) dL_law_319 (by decide) ?_
  refine l_iadd (nI (k + 2)) dL_law_320 (nI_add k 2) ?_
  refine l_sld (by omega) (by omega) dL_law_321 ?_
  refine l_aload_n 3 dL_law_322 rfl rfl ?_
  refine l_iload_n 0 dL_law_323 rfl rfl ?_
  refine l_iconst (v := nI 3) dL_law_324 (by decide) ?_
  refine l_iadd (nI (k + 3)) dL_law_325 (nI_add k 3) ?_
  refine l_sld (by omega) (by omega) dL_law_326 ?_
  refine l_callX (As := [.int (xs (k + 1)), .int (xs (k + 2)), .int (xs (k + 3))]) (rest := []) lL_36 rfl (ceX9_enter _ _ σ (xs (k + 1)) (xs (k + 2)) (xs (k + 3)) e1) ⟨Nat.le_of_ble_eq_true rfl, Nat.le_of_ble_eq_true rfl⟩ rfl rfl (Nat.le_of_ble_eq_true rfl) dL_law_327 ?_
  refine l_aload_n 1 dL_law_330 rfl rfl ?_
  refine l_aload_n 3 dL_law_331 rfl rfl ?_
  refine l_iload_n 0 dL_law_332 rfl rfl ?_
  refine l_iconst (v := nI 1) dL_law_333 (by decide) ?_
  refine l_iadd (nI (k + 1)) dL_law_334 (nI_add k 1) ?_
  refine l_sld (by omega) (by omega) dL_law_335 ?_
  refine l_aload_n 3 dL_law_336 rfl rfl ?_
  refine l_iload_n 0 dL_law_337 rfl rfl ?_
  refine l_iconst (v := nI 2) dL_law_338 (by decide) ?_
  refine l_iadd (nI (k + 2)) dL_law_339 (nI_add k 2) ?_
  refine l_sld (by omega) (by omega) dL_law_340 ?_
  refine l_aload_n 3 dL_law_341 rfl rfl ?_
  refine l_iload_n 0 dL_law_342 rfl rfl ?_
  refine l_iconst (v := nI 3) dL_law_343 (by decide) ?_
  refine l_iadd (nI (k + 3)) dL_law_344 (nI_add k 3) ?_
  refine l_sld (by omega) (by omega) dL_law_345 ?_
  refine l_callM (As := [.int (xs (k + 1)), .int (xs (k + 2)), .int (xs (k + 3))]) (rest := [.int r]) lL_39 rfl (ceX10_enter _ _ τ (xs (k + 1)) (xs (k + 2)) (xs (k + 3)) e2) ⟨Nat.le_of_ble_eq_true rfl, Nat.le_of_ble_eq_true rfl⟩ rfl rfl (Nat.le_of_ble_eq_true rfl) dL_law_346 ?_
  refine l_same 832 dL_law_349 (by decide) ?_
  exact K _ _ hR
theorem v_450 : Cond.methodLink RL 40 yX9_copy ∈ TBL := mTi 450 (by decide +kernel) rfl
theorem v_453 : Cond.code yX9_copy qX9_copy.2.1 qX9_copy.2.2.1 qX9_copy.2.2.2.1 ∈ TBL := mTi 453 (by decide +kernel) rfl
theorem v_451 : Cond.instanceMethod yX9_copy ∈ TBL := mTi 451 (by decide +kernel) rfl
theorem v_452 : Cond.selects RX9 yX9_copy yX9_copy ∈ TBL := mTi 452 (by decide +kernel) rfl
theorem lL_40 : LkV RL 40 yX9_copy qX9_copy 5 := ⟨⟨Or.inl v_450, v_51, v_453, by decide +kernel⟩, v_451, v_452⟩
theorem v_952 : Cond.methodLink RL 44 yX10_copy ∈ TBL := mTi 952 (by decide +kernel) rfl
theorem v_955 : Cond.code yX10_copy qX10_copy.2.1 qX10_copy.2.2.1 qX10_copy.2.2.2.1 ∈ TBL := mTi 955 (by decide +kernel) rfl
theorem v_953 : Cond.instanceMethod yX10_copy ∈ TBL := mTi 953 (by decide +kernel) rfl
theorem v_954 : Cond.selects RX10 yX10_copy yX10_copy ∈ TBL := mTi 954 (by decide +kernel) rfl
theorem lL_44 : LkV RL 44 yX10_copy qX10_copy 5 := ⟨⟨Or.inl v_952, v_61, v_955, by decide +kernel⟩, v_953, v_954⟩
set_option maxRecDepth 100000 in
theorem case_6 {E : XL} {b L : Nat} {xs : Nat → Int32} {σ τ : Mem} {k : Nat} (hL : L ≤ 3072) (hk : k + 6 ≤ L) (h : RelE σ τ) (K : ∀ σ' τ', RelE σ' τ' → GL E b L xs σ' τ' 832 [(3, .int (nI k)), (2, .ref (E.2.2.2.2.2.1 0)), (1, .ref (E.2.2.1.2.2.1 0)), (0, .ref b)] []) : GL E b L xs σ τ 354 [(3, .int (nI k)), (2, .ref (E.2.2.2.2.2.1 0)), (1, .ref (E.2.2.1.2.2.1 0)), (0, .ref b)] [] := by
  obtain ⟨r, σ2, τ2, e1, e2, hR⟩ := op_copy (xs (k + 1)) (xs (k + 2)) (xs (k + 3)) (xs (k + 4)) (xs (k + 5)) h
  refine l_aload_n 2 dL_law_354 rfl rfl ?_
  refine l_aload_n 3 dL_law_355 rfl rfl ?_
  refine l_iload_n 0 dL_law_356 rfl rfl ?_
  refine l_iconst (v := nI 1) dL_law_357 (by decide) ?_
  refine l_iadd (nI (k + 1)) dL_law_358 (nI_add k 1) ?_
  refine l_sld (by omega) (by omega) dL_law_359 ?_
  refine l_aload_n 3 dL_law_360 rfl rfl ?_
  refine l_iload_n 0 dL_law_361 rfl rfl ?_
  refine l_iconst (v := nI 2) dL_law_362 (by decide) ?_
  refine l_iadd (nI (k + 2)) dL_law_363 (nI_add k 2) ?_
  refine l_sld (by omega) (by omega) dL_law_364 ?_
  refine l_aload_n 3 dL_law_365 rfl rfl ?_
  refine l_iload_n 0 dL_law_366 rfl rfl ?_
  refine l_iconst (v := nI 3) dL_law_367 (by decide) ?_
  refine l_iadd (nI (k + 3)) dL_law_368 (nI_add k 3) ?_
  refine l_sld (by omega) (by omega) dL_law_369 ?_
  refine l_aload_n 3 dL_law_370 rfl rfl ?_
  refine l_iload_n 0 dL_law_371 rfl rfl ?_
  refine l_iconst (v := nI 4) dL_law_372 (by decide) ?_
  refine l_iadd (nI (k + 4)) dL_law_373 (nI_add k 4) ?_
  refine l_sld (by omega) (by omega) dL_law_374 ?_
  refine l_aload_n 3 dL_law_375 rfl rfl ?_
  refine l_iload_n 0 dL_law_376 rfl rfl ?_
  refine l_iconst (v := nI 5) dL_law_377 (by decide) ?_
  refine l_iadd (nI (k + 5)) dL_law_378 (nI_add k 5) ?_
  refine l_sld (by omega) (by omega) dL_law_379 ?_
  refine l_callX (As := [.int (xs (k + 1)), .int (xs (k + 2)), .int (xs (k + 3)), .int (xs (k + 4)), .int (xs (k + 5))]) (rest := []) lL_40 rfl (ceX9_copy _ _ σ (xs (k + 1)) (xs (k + 2)) (xs (k + 3)) (xs (k + 4)) (xs (k + 5)) e1) ⟨Nat.le_of_ble_eq_true rfl, Nat.le_of_ble_eq_true rfl⟩ rfl rfl (Nat.le_of_ble_eq_true rfl) dL_law_380 ?_
  refine l_aload_n 1 dL_law_383 rfl rfl ?_
  refine l_aload_n 3 dL_law_384 rfl rfl ?_
  refine l_iload_n 0 dL_law_385 rfl rfl ?_
  refine l_iconst (v := nI 1) dL_law_386 (by decide) ?_
  refine l_iadd (nI (k + 1)) dL_law_387 (nI_add k 1) ?_
  refine l_sld (by omega) (by omega) dL_law_388 ?_
  refine l_aload_n 3 dL_law_389 rfl rfl ?_
  refine l_iload_n 0 dL_law_390 rfl rfl ?_
  refine l_iconst (v := nI 2) dL_law_391 (by decide) ?_
  refine l_iadd (nI (k + 2)) dL_law_392 (nI_add k 2) ?_
  refine l_sld (by omega) (by omega) dL_law_393 ?_
  refine l_aload_n 3 dL_law_394 rfl rfl ?_
  refine l_iload_n 0 dL_law_395 rfl rfl ?_
  refine l_iconst (v := nI 3) dL_law_396 (by decide) ?_
  refine l_iadd (nI (k + 3)) dL_law_397 (nI_add k 3) ?_
  refine l_sld (by omega) (by omega) dL_law_398 ?_
  refine l_aload_n 3 dL_law_399 rfl rfl ?_
  refine l_iload_n 0 dL_law_400 rfl rfl ?_
  refine l_iconst (v := nI 4) dL_law_401 (by decide) ?_
  refine l_iadd (nI (k + 4)) dL_law_402 (nI_add k 4) ?_
  refine l_sld (by omega) (by omega) dL_law_403 ?_
  refine l_aload_n 3 dL_law_404 rfl rfl ?_
  refine l_iload_n 0 dL_law_405 rfl rfl ?_
  refine l_iconst (v := nI 5) dL_law_406 (by decide) ?_
  refine l_iadd (nI (k + 5)) dL_law_407 (nI_add k 5) ?_
  refine l_sld (by omega) (by omega) dL_law_408 ?_
  refine l_callM (As := [.int (xs (k + 1)), .int (xs (k + 2)), .int (xs (k + 3)), .int (xs (k + 4)), .int (xs (k + 5))]) (rest := [.int r]) lL_44 rfl (ceX10_copy _ _ τ (xs (k + 1)) (xs (k + 2)) (xs (k + 3)) (xs (k + 4)) (xs (k + 5)) e2) ⟨Nat.le_of_ble_eq_true rfl, Nat.le_of_ble_eq_true rfl⟩ rfl rfl (Nat.le_of_ble_eq_true rfl) dL_law_409 ?_
  refine l_same 832 dL_law_412 (by decide) ?_
  exact K _ _ hR
theorem v_461 : Cond.methodLink RL 45 yX9_lose ∈ TBL := mTi 461 (by decide +kernel) rfl
theorem v_464 : Cond.code yX9_lose qX9_lose.2.1 qX9_lose.2.2.1 qX9_lose.2.2.2.1 ∈ TBL := mTi 464 (by decide +kernel) rfl
theorem v_462 : Cond.instanceMethod yX9_lose ∈ TBL := mTi 462 (by decide +kernel) rfl
theorem v_463 : Cond.selects RX9 yX9_lose yX9_lose ∈ TBL := mTi 463 (by decide +kernel) rfl
theorem lL_45 : LkV RL 45 yX9_lose qX9_lose 1 := ⟨⟨Or.inl v_461, v_51, v_464, by decide +kernel⟩, v_462, v_463⟩
theorem v_956 : Cond.methodLink RL 48 yX10_lose_ ∈ TBL := mTi 956 (by decide +kernel) rfl
theorem v_959 : Cond.code yX10_lose_ qX10_lose_.2.1 qX10_lose_.2.2.1 qX10_lose_.2.2.2.1 ∈ TBL := mTi 959 (by decide +kernel) rfl
theorem v_957 : Cond.instanceMethod yX10_lose_ ∈ TBL := mTi 957 (by decide +kernel) rfl
theorem v_958 : Cond.selects RX10 yX10_lose_ yX10_lose_ ∈ TBL := mTi 958 (by decide +kernel) rfl
theorem lL_48 : LkV RL 48 yX10_lose_ qX10_lose_ 1 := ⟨⟨Or.inl v_956, v_61, v_959, by decide +kernel⟩, v_957, v_958⟩
set_option maxRecDepth 100000 in
theorem case_7 {E : XL} {b L : Nat} {xs : Nat → Int32} {σ τ : Mem} {k : Nat} (hL : L ≤ 3072) (hk : k + 6 ≤ L) (h : RelE σ τ) (K : ∀ σ' τ', RelE σ' τ' → GL E b L xs σ' τ' 832 [(3, .int (nI k)), (2, .ref (E.2.2.2.2.2.1 0)), (1, .ref (E.2.2.1.2.2.1 0)), (0, .ref b)] []) : GL E b L xs σ τ 417 [(3, .int (nI k)), (2, .ref (E.2.2.2.2.2.1 0)), (1, .ref (E.2.2.1.2.2.1 0)), (0, .ref b)] [] := by
  obtain ⟨r, σ2, τ2, e1, e2, hR⟩ := op_lose (xs (k + 1)) h
  refine l_aload_n 2 dL_law_417 rfl rfl ?_
  refine l_aload_n 3 dL_law_418 rfl rfl ?_
  refine l_iload_n 0 dL_law_419 rfl rfl ?_
  refine l_iconst (v := nI 1) dL_law_420 (by decide) ?_
  refine l_iadd (nI (k + 1)) dL_law_421 (nI_add k 1) ?_
  refine l_sld (by omega) (by omega) dL_law_422 ?_
  refine l_callX (As := [.int (xs (k + 1))]) (rest := []) lL_45 rfl (ceX9_lose _ _ σ (xs (k + 1)) e1) ⟨Nat.le_of_ble_eq_true rfl, Nat.le_of_ble_eq_true rfl⟩ rfl rfl (Nat.le_of_ble_eq_true rfl) dL_law_423 ?_
  refine l_aload_n 1 dL_law_426 rfl rfl ?_
  refine l_aload_n 3 dL_law_427 rfl rfl ?_
  refine l_iload_n 0 dL_law_428 rfl rfl ?_
  refine l_iconst (v := nI 1) dL_law_429 (by decide) ?_
  refine l_iadd (nI (k + 1)) dL_law_430 (nI_add k 1) ?_
  refine l_sld (by omega) (by omega) dL_law_431 ?_
  refine l_callM (As := [.int (xs (k + 1))]) (rest := [.int r]) lL_48 rfl (ceX10_lose_ _ _ τ (xs (k + 1)) e2) ⟨Nat.le_of_ble_eq_true rfl, Nat.le_of_ble_eq_true rfl⟩ rfl rfl (Nat.le_of_ble_eq_true rfl) dL_law_432 ?_
  refine l_same 832 dL_law_435 (by decide) ?_
  exact K _ _ hR
theorem v_465 : Cond.methodLink RL 49 yX9_feed ∈ TBL := mTi 465 (by decide +kernel) rfl
theorem v_468 : Cond.code yX9_feed qX9_feed.2.1 qX9_feed.2.2.1 qX9_feed.2.2.2.1 ∈ TBL := mTi 468 (by decide +kernel) rfl
theorem v_466 : Cond.instanceMethod yX9_feed ∈ TBL := mTi 466 (by decide +kernel) rfl
theorem v_467 : Cond.selects RX9 yX9_feed yX9_feed ∈ TBL := mTi 467 (by decide +kernel) rfl
theorem lL_49 : LkV RL 49 yX9_feed qX9_feed 3 := ⟨⟨Or.inl v_465, v_51, v_468, by decide +kernel⟩, v_466, v_467⟩
theorem v_960 : Cond.methodLink RL 52 yX10_feed ∈ TBL := mTi 960 (by decide +kernel) rfl
theorem v_963 : Cond.code yX10_feed qX10_feed.2.1 qX10_feed.2.2.1 qX10_feed.2.2.2.1 ∈ TBL := mTi 963 (by decide +kernel) rfl
theorem v_961 : Cond.instanceMethod yX10_feed ∈ TBL := mTi 961 (by decide +kernel) rfl
theorem v_962 : Cond.selects RX10 yX10_feed yX10_feed ∈ TBL := mTi 962 (by decide +kernel) rfl
theorem lL_52 : LkV RL 52 yX10_feed qX10_feed 3 := ⟨⟨Or.inl v_960, v_61, v_963, by decide +kernel⟩, v_961, v_962⟩
set_option maxRecDepth 100000 in
theorem case_8 {E : XL} {b L : Nat} {xs : Nat → Int32} {σ τ : Mem} {k : Nat} (hL : L ≤ 3072) (hk : k + 6 ≤ L) (h : RelE σ τ) (K : ∀ σ' τ', RelE σ' τ' → GL E b L xs σ' τ' 832 [(3, .int (nI k)), (2, .ref (E.2.2.2.2.2.1 0)), (1, .ref (E.2.2.1.2.2.1 0)), (0, .ref b)] []) : GL E b L xs σ τ 440 [(3, .int (nI k)), (2, .ref (E.2.2.2.2.2.1 0)), (1, .ref (E.2.2.1.2.2.1 0)), (0, .ref b)] [] := by
  obtain ⟨r, σ2, τ2, e1, e2, hR⟩ := op_feed (xs (k + 1)) (xs (k + 2)) (xs (k + 3)) h
  refine l_aload_n 2 dL_law_440 rfl rfl ?_
  refine l_aload_n 3 dL_law_441 rfl rfl ?_
  refine l_iload_n 0 dL_law_442 rfl rfl ?_
  refine l_iconst (v := nI 1) dL_law_443 (by decide) ?_
  refine l_iadd (nI (k + 1)) dL_law_444 (nI_add k 1) ?_
  refine l_sld (by omega) (by omega) dL_law_445 ?_
  refine l_aload_n 3 dL_law_446 rfl rfl ?_
  refine l_iload_n 0 dL_law_447 rfl rfl ?_
  refine l_iconst (v := nI 2) dL_law_448 (by decide) ?_
  refine l_iadd (nI (k + 2)) dL_law_449 (nI_add k 2) ?_
  refine l_sld (by omega) (by omega) dL_law_450 ?_
  refine l_aload_n 3 dL_law_451 rfl rfl ?_
  refine l_iload_n 0 dL_law_452 rfl rfl ?_
  refine l_iconst (v := nI 3) dL_law_453 (by decide) ?_
  refine l_iadd (nI (k + 3)) dL_law_454 (nI_add k 3) ?_
  refine l_sld (by omega) (by omega) dL_law_455 ?_
  refine l_callX (As := [.int (xs (k + 1)), .int (xs (k + 2)), .int (xs (k + 3))]) (rest := []) lL_49 rfl (ceX9_feed _ _ σ (xs (k + 1)) (xs (k + 2)) (xs (k + 3)) e1) ⟨Nat.le_of_ble_eq_true rfl, Nat.le_of_ble_eq_true rfl⟩ rfl rfl (Nat.le_of_ble_eq_true rfl) dL_law_456 ?_
  refine l_aload_n 1 dL_law_459 rfl rfl ?_
  refine l_aload_n 3 dL_law_460 rfl rfl ?_
  refine l_iload_n 0 dL_law_461 rfl rfl ?_
  refine l_iconst (v := nI 1) dL_law_462 (by decide) ?_
  refine l_iadd (nI (k + 1)) dL_law_463 (nI_add k 1) ?_
  refine l_sld (by omega) (by omega) dL_law_464 ?_
  refine l_aload_n 3 dL_law_465 rfl rfl ?_
  refine l_iload_n 0 dL_law_466 rfl rfl ?_
  refine l_iconst (v := nI 2) dL_law_467 (by decide) ?_
  refine l_iadd (nI (k + 2)) dL_law_468 (nI_add k 2) ?_
  refine l_sld (by omega) (by omega) dL_law_469 ?_
  refine l_aload_n 3 dL_law_470 rfl rfl ?_
  refine l_iload_n 0 dL_law_471 rfl rfl ?_
  refine l_iconst (v := nI 3) dL_law_472 (by decide) ?_
  refine l_iadd (nI (k + 3)) dL_law_473 (nI_add k 3) ?_
  refine l_sld (by omega) (by omega) dL_law_474 ?_
  refine l_callM (As := [.int (xs (k + 1)), .int (xs (k + 2)), .int (xs (k + 3))]) (rest := [.int r]) lL_52 rfl (ceX10_feed _ _ τ (xs (k + 1)) (xs (k + 2)) (xs (k + 3)) e2) ⟨Nat.le_of_ble_eq_true rfl, Nat.le_of_ble_eq_true rfl⟩ rfl rfl (Nat.le_of_ble_eq_true rfl) dL_law_475 ?_
  refine l_same 832 dL_law_478 (by decide) ?_
  exact K _ _ hR
theorem v_473 : Cond.methodLink RL 53 yX9_trim ∈ TBL := mTi 473 (by decide +kernel) rfl
theorem v_476 : Cond.code yX9_trim qX9_trim.2.1 qX9_trim.2.2.1 qX9_trim.2.2.2.1 ∈ TBL := mTi 476 (by decide +kernel) rfl
theorem v_474 : Cond.instanceMethod yX9_trim ∈ TBL := mTi 474 (by decide +kernel) rfl
theorem v_475 : Cond.selects RX9 yX9_trim yX9_trim ∈ TBL := mTi 475 (by decide +kernel) rfl
theorem lL_53 : LkV RL 53 yX9_trim qX9_trim 1 := ⟨⟨Or.inl v_473, v_51, v_476, by decide +kernel⟩, v_474, v_475⟩
theorem v_968 : Cond.methodLink RL 56 yX10_trim ∈ TBL := mTi 968 (by decide +kernel) rfl
theorem v_971 : Cond.code yX10_trim qX10_trim.2.1 qX10_trim.2.2.1 qX10_trim.2.2.2.1 ∈ TBL := mTi 971 (by decide +kernel) rfl
theorem v_969 : Cond.instanceMethod yX10_trim ∈ TBL := mTi 969 (by decide +kernel) rfl
theorem v_970 : Cond.selects RX10 yX10_trim yX10_trim ∈ TBL := mTi 970 (by decide +kernel) rfl
theorem lL_56 : LkV RL 56 yX10_trim qX10_trim 1 := ⟨⟨Or.inl v_968, v_61, v_971, by decide +kernel⟩, v_969, v_970⟩
set_option maxRecDepth 100000 in
theorem case_9 {E : XL} {b L : Nat} {xs : Nat → Int32} {σ τ : Mem} {k : Nat} (hL : L ≤ 3072) (hk : k + 6 ≤ L) (h : RelE σ τ) (K : ∀ σ' τ', RelE σ' τ' → GL E b L xs σ' τ' 832 [(3, .int (nI k)), (2, .ref (E.2.2.2.2.2.1 0)), (1, .ref (E.2.2.1.2.2.1 0)), (0, .ref b)] []) : GL E b L xs σ τ 483 [(3, .int (nI k)), (2, .ref (E.2.2.2.2.2.1 0)), (1, .ref (E.2.2.1.2.2.1 0)), (0, .ref b)] [] := by
  obtain ⟨r, σ2, τ2, e1, e2, hR⟩ := op_trim (xs (k + 1)) h
  refine l_aload_n 2 dL_law_483 rfl rfl ?_
  refine l_aload_n 3 dL_law_484 rfl rfl ?_
  refine l_iload_n 0 dL_law_485 rfl rfl ?_
  refine l_iconst (v := nI 1) dL_law_486 (by decide) ?_
  refine l_iadd (nI (k + 1)) dL_law_487 (nI_add k 1) ?_
  refine l_sld (by omega) (by omega) dL_law_488 ?_
  refine l_callX (As := [.int (xs (k + 1))]) (rest := []) lL_53 rfl (ceX9_trim _ _ σ (xs (k + 1)) e1) ⟨Nat.le_of_ble_eq_true rfl, Nat.le_of_ble_eq_true rfl⟩ rfl rfl (Nat.le_of_ble_eq_true rfl) dL_law_489 ?_
  refine l_aload_n 1 dL_law_492 rfl rfl ?_
  refine l_aload_n 3 dL_law_493 rfl rfl ?_
  refine l_iload_n 0 dL_law_494 rfl rfl ?_
  refine l_iconst (v := nI 1) dL_law_495 (by decide) ?_
  refine l_iadd (nI (k + 1)) dL_law_496 (nI_add k 1) ?_
  refine l_sld (by omega) (by omega) dL_law_497 ?_
  refine l_callM (As := [.int (xs (k + 1))]) (rest := [.int r]) lL_56 rfl (ceX10_trim _ _ τ (xs (k + 1)) e2) ⟨Nat.le_of_ble_eq_true rfl, Nat.le_of_ble_eq_true rfl⟩ rfl rfl (Nat.le_of_ble_eq_true rfl) dL_law_498 ?_
  refine l_same 832 dL_law_501 (by decide) ?_
  exact K _ _ hR
theorem v_477 : Cond.methodLink RL 57 yX9_gift ∈ TBL := mTi 477 (by decide +kernel) rfl
theorem v_480 : Cond.code yX9_gift qX9_gift.2.1 qX9_gift.2.2.1 qX9_gift.2.2.2.1 ∈ TBL := mTi 480 (by decide +kernel) rfl
theorem v_478 : Cond.instanceMethod yX9_gift ∈ TBL := mTi 478 (by decide +kernel) rfl
theorem v_479 : Cond.selects RX9 yX9_gift yX9_gift ∈ TBL := mTi 479 (by decide +kernel) rfl
theorem lL_57 : LkV RL 57 yX9_gift qX9_gift 0 := ⟨⟨Or.inl v_477, v_51, v_480, by decide +kernel⟩, v_478, v_479⟩
theorem v_972 : Cond.methodLink RL 61 yX10_gift ∈ TBL := mTi 972 (by decide +kernel) rfl
theorem v_975 : Cond.code yX10_gift qX10_gift.2.1 qX10_gift.2.2.1 qX10_gift.2.2.2.1 ∈ TBL := mTi 975 (by decide +kernel) rfl
theorem v_973 : Cond.instanceMethod yX10_gift ∈ TBL := mTi 973 (by decide +kernel) rfl
theorem v_974 : Cond.selects RX10 yX10_gift yX10_gift ∈ TBL := mTi 974 (by decide +kernel) rfl
theorem lL_61 : LkV RL 61 yX10_gift qX10_gift 0 := ⟨⟨Or.inl v_972, v_61, v_975, by decide +kernel⟩, v_973, v_974⟩
set_option maxRecDepth 100000 in
theorem case_10 {E : XL} {b L : Nat} {xs : Nat → Int32} {σ τ : Mem} {k : Nat} (hL : L ≤ 3072) (hk : k + 6 ≤ L) (h : RelE σ τ) (K : ∀ σ' τ', RelE σ' τ' → GL E b L xs σ' τ' 832 [(3, .int (nI k)), (2, .ref (E.2.2.2.2.2.1 0)), (1, .ref (E.2.2.1.2.2.1 0)), (0, .ref b)] []) : GL E b L xs σ τ 506 [(3, .int (nI k)), (2, .ref (E.2.2.2.2.2.1 0)), (1, .ref (E.2.2.1.2.2.1 0)), (0, .ref b)] [] := by
  obtain ⟨r, σ2, τ2, e1, e2, hR⟩ := op_gift  h
  refine l_aload_n 2 dL_law_506 rfl rfl ?_
  refine l_callX (As := []) (rest := []) lL_57 rfl (ceX9_gift _ _ σ  e1) ⟨Nat.le_of_ble_eq_true rfl, Nat.le_of_ble_eq_true rfl⟩ rfl rfl (Nat.le_of_ble_eq_true rfl) dL_law_507 ?_
  refine l_aload_n 1 dL_law_510 rfl rfl ?_
  refine l_callM (As := []) (rest := [.int r]) lL_61 rfl (ceX10_gift _ _ τ  e2) ⟨Nat.le_of_ble_eq_true rfl, Nat.le_of_ble_eq_true rfl⟩ rfl rfl (Nat.le_of_ble_eq_true rfl) dL_law_511 ?_
  refine l_same 832 dL_law_514 (by decide) ?_
  exact K _ _ hR
theorem v_580 : Cond.methodLink RL 62 yX9_purse ∈ TBL := mTi 580 (by decide +kernel) rfl
theorem v_583 : Cond.code yX9_purse qX9_purse.2.1 qX9_purse.2.2.1 qX9_purse.2.2.2.1 ∈ TBL := mTi 583 (by decide +kernel) rfl
theorem v_581 : Cond.instanceMethod yX9_purse ∈ TBL := mTi 581 (by decide +kernel) rfl
theorem v_582 : Cond.selects RX9 yX9_purse yX9_purse ∈ TBL := mTi 582 (by decide +kernel) rfl
theorem lL_62 : LkV RL 62 yX9_purse qX9_purse 2 := ⟨⟨Or.inl v_580, v_51, v_583, by decide +kernel⟩, v_581, v_582⟩
theorem v_1019 : Cond.methodLink RL 65 yX10_purse ∈ TBL := mTi 1019 (by decide +kernel) rfl
theorem v_1022 : Cond.code yX10_purse qX10_purse.2.1 qX10_purse.2.2.1 qX10_purse.2.2.2.1 ∈ TBL := mTi 1022 (by decide +kernel) rfl
theorem v_1020 : Cond.instanceMethod yX10_purse ∈ TBL := mTi 1020 (by decide +kernel) rfl
theorem v_1021 : Cond.selects RX10 yX10_purse yX10_purse ∈ TBL := mTi 1021 (by decide +kernel) rfl
theorem lL_65 : LkV RL 65 yX10_purse qX10_purse 2 := ⟨⟨Or.inl v_1019, v_61, v_1022, by decide +kernel⟩, v_1020, v_1021⟩
set_option maxRecDepth 100000 in
theorem case_11 {E : XL} {b L : Nat} {xs : Nat → Int32} {σ τ : Mem} {k : Nat} (hL : L ≤ 3072) (hk : k + 6 ≤ L) (h : RelE σ τ) (K : ∀ σ' τ', RelE σ' τ' → GL E b L xs σ' τ' 832 [(3, .int (nI k)), (2, .ref (E.2.2.2.2.2.1 0)), (1, .ref (E.2.2.1.2.2.1 0)), (0, .ref b)] []) : GL E b L xs σ τ 519 [(3, .int (nI k)), (2, .ref (E.2.2.2.2.2.1 0)), (1, .ref (E.2.2.1.2.2.1 0)), (0, .ref b)] [] := by
  obtain ⟨r, e1, e2⟩ := op_purse (xs (k + 1)) (xs (k + 2)) h
  refine l_aload_n 2 dL_law_519 rfl rfl ?_
  refine l_aload_n 3 dL_law_520 rfl rfl ?_
  refine l_iload_n 0 dL_law_521 rfl rfl ?_
  refine l_iconst (v := nI 1) dL_law_522 (by decide) ?_
  refine l_iadd (nI (k + 1)) dL_law_523 (nI_add k 1) ?_
  refine l_sld (by omega) (by omega) dL_law_524 ?_
  refine l_aload_n 3 dL_law_525 rfl rfl ?_
  refine l_iload_n 0 dL_law_526 rfl rfl ?_
  refine l_iconst (v := nI 2) dL_law_527 (by decide) ?_
  refine l_iadd (nI (k + 2)) dL_law_528 (nI_add k 2) ?_
  refine l_sld (by omega) (by omega) dL_law_529 ?_
  refine l_callX (As := [.int (xs (k + 1)), .int (xs (k + 2))]) (rest := []) lL_62 rfl (ceX9_purse _ _ σ (xs (k + 1)) (xs (k + 2)) e1) ⟨Nat.le_of_ble_eq_true rfl, Nat.le_of_ble_eq_true rfl⟩ rfl rfl (Nat.le_of_ble_eq_true rfl) dL_law_530 ?_
  refine l_aload_n 1 dL_law_533 rfl rfl ?_
  refine l_aload_n 3 dL_law_534 rfl rfl ?_
  refine l_iload_n 0 dL_law_535 rfl rfl ?_
  refine l_iconst (v := nI 1) dL_law_536 (by decide) ?_
  refine l_iadd (nI (k + 1)) dL_law_537 (nI_add k 1) ?_
  refine l_sld (by omega) (by omega) dL_law_538 ?_
  refine l_aload_n 3 dL_law_539 rfl rfl ?_
  refine l_iload_n 0 dL_law_540 rfl rfl ?_
  refine l_iconst (v := nI 2) dL_law_541 (by decide) ?_
  refine l_iadd (nI (k + 2)) dL_law_542 (nI_add k 2) ?_
  refine l_sld (by omega) (by omega) dL_law_543 ?_
  refine l_callM (As := [.int (xs (k + 1)), .int (xs (k + 2))]) (rest := [.int r]) lL_65 rfl (ceX10_purse _ _ τ (xs (k + 1)) (xs (k + 2)) e2) ⟨Nat.le_of_ble_eq_true rfl, Nat.le_of_ble_eq_true rfl⟩ rfl rfl (Nat.le_of_ble_eq_true rfl) dL_law_544 ?_
  refine l_same 832 dL_law_547 (by decide) ?_
  exact K _ _ h
theorem v_593 : Cond.methodLink RL 66 yX9_funds ∈ TBL := mTi 593 (by decide +kernel) rfl
theorem v_596 : Cond.code yX9_funds qX9_funds.2.1 qX9_funds.2.2.1 qX9_funds.2.2.2.1 ∈ TBL := mTi 596 (by decide +kernel) rfl
theorem v_594 : Cond.instanceMethod yX9_funds ∈ TBL := mTi 594 (by decide +kernel) rfl
theorem v_595 : Cond.selects RX9 yX9_funds yX9_funds ∈ TBL := mTi 595 (by decide +kernel) rfl
theorem lL_66 : LkV RL 66 yX9_funds qX9_funds 1 := ⟨⟨Or.inl v_593, v_51, v_596, by decide +kernel⟩, v_594, v_595⟩
theorem v_1031 : Cond.methodLink RL 69 yX10_funds ∈ TBL := mTi 1031 (by decide +kernel) rfl
theorem v_1034 : Cond.code yX10_funds qX10_funds.2.1 qX10_funds.2.2.1 qX10_funds.2.2.2.1 ∈ TBL := mTi 1034 (by decide +kernel) rfl
theorem v_1032 : Cond.instanceMethod yX10_funds ∈ TBL := mTi 1032 (by decide +kernel) rfl
theorem v_1033 : Cond.selects RX10 yX10_funds yX10_funds ∈ TBL := mTi 1033 (by decide +kernel) rfl
theorem lL_69 : LkV RL 69 yX10_funds qX10_funds 1 := ⟨⟨Or.inl v_1031, v_61, v_1034, by decide +kernel⟩, v_1032, v_1033⟩
set_option maxRecDepth 100000 in
theorem case_12 {E : XL} {b L : Nat} {xs : Nat → Int32} {σ τ : Mem} {k : Nat} (hL : L ≤ 3072) (hk : k + 6 ≤ L) (h : RelE σ τ) (K : ∀ σ' τ', RelE σ' τ' → GL E b L xs σ' τ' 832 [(3, .int (nI k)), (2, .ref (E.2.2.2.2.2.1 0)), (1, .ref (E.2.2.1.2.2.1 0)), (0, .ref b)] []) : GL E b L xs σ τ 552 [(3, .int (nI k)), (2, .ref (E.2.2.2.2.2.1 0)), (1, .ref (E.2.2.1.2.2.1 0)), (0, .ref b)] [] := by
  obtain ⟨r, e1, e2⟩ := op_funds (xs (k + 1)) h
  refine l_aload_n 2 dL_law_552 rfl rfl ?_
  refine l_aload_n 3 dL_law_553 rfl rfl ?_
  refine l_iload_n 0 dL_law_554 rfl rfl ?_
  refine l_iconst (v := nI 1) dL_law_555 (by decide) ?_
  refine l_iadd (nI (k + 1)) dL_law_556 (nI_add k 1) ?_
  refine l_sld (by omega) (by omega) dL_law_557 ?_
  refine l_callX (As := [.int (xs (k + 1))]) (rest := []) lL_66 rfl (ceX9_funds _ _ σ (xs (k + 1)) e1) ⟨Nat.le_of_ble_eq_true rfl, Nat.le_of_ble_eq_true rfl⟩ rfl rfl (Nat.le_of_ble_eq_true rfl) dL_law_558 ?_
  refine l_aload_n 1 dL_law_561 rfl rfl ?_
  refine l_aload_n 3 dL_law_562 rfl rfl ?_
  refine l_iload_n 0 dL_law_563 rfl rfl ?_
  refine l_iconst (v := nI 1) dL_law_564 (by decide) ?_
  refine l_iadd (nI (k + 1)) dL_law_565 (nI_add k 1) ?_
  refine l_sld (by omega) (by omega) dL_law_566 ?_
  refine l_callM (As := [.int (xs (k + 1))]) (rest := [.int r]) lL_69 rfl (ceX10_funds _ _ τ (xs (k + 1)) e2) ⟨Nat.le_of_ble_eq_true rfl, Nat.le_of_ble_eq_true rfl⟩ rfl rfl (Nat.le_of_ble_eq_true rfl) dL_law_567 ?_
  refine l_same 832 dL_law_570 (by decide) ?_
  exact K _ _ h
theorem v_614 : Cond.methodLink RL 70 yX9_rule ∈ TBL := mTi 614 (by decide +kernel) rfl
theorem v_617 : Cond.code yX9_rule qX9_rule.2.1 qX9_rule.2.2.1 qX9_rule.2.2.2.1 ∈ TBL := mTi 617 (by decide +kernel) rfl
theorem v_615 : Cond.instanceMethod yX9_rule ∈ TBL := mTi 615 (by decide +kernel) rfl
theorem v_616 : Cond.selects RX9 yX9_rule yX9_rule ∈ TBL := mTi 616 (by decide +kernel) rfl
theorem lL_70 : LkV RL 70 yX9_rule qX9_rule 2 := ⟨⟨Or.inl v_614, v_51, v_617, by decide +kernel⟩, v_615, v_616⟩
theorem v_1047 : Cond.methodLink RL 73 yX10_rule ∈ TBL := mTi 1047 (by decide +kernel) rfl
theorem v_1050 : Cond.code yX10_rule qX10_rule.2.1 qX10_rule.2.2.1 qX10_rule.2.2.2.1 ∈ TBL := mTi 1050 (by decide +kernel) rfl
theorem v_1048 : Cond.instanceMethod yX10_rule ∈ TBL := mTi 1048 (by decide +kernel) rfl
theorem v_1049 : Cond.selects RX10 yX10_rule yX10_rule ∈ TBL := mTi 1049 (by decide +kernel) rfl
theorem lL_73 : LkV RL 73 yX10_rule qX10_rule 2 := ⟨⟨Or.inl v_1047, v_61, v_1050, by decide +kernel⟩, v_1048, v_1049⟩
set_option maxRecDepth 100000 in
theorem case_13 {E : XL} {b L : Nat} {xs : Nat → Int32} {σ τ : Mem} {k : Nat} (hL : L ≤ 3072) (hk : k + 6 ≤ L) (h : RelE σ τ) (K : ∀ σ' τ', RelE σ' τ' → GL E b L xs σ' τ' 832 [(3, .int (nI k)), (2, .ref (E.2.2.2.2.2.1 0)), (1, .ref (E.2.2.1.2.2.1 0)), (0, .ref b)] []) : GL E b L xs σ τ 575 [(3, .int (nI k)), (2, .ref (E.2.2.2.2.2.1 0)), (1, .ref (E.2.2.1.2.2.1 0)), (0, .ref b)] [] := by
  obtain ⟨r, σ2, τ2, e1, e2, hR⟩ := op_rule (xs (k + 1)) (xs (k + 2)) h
  refine l_aload_n 2 dL_law_575 rfl rfl ?_
  refine l_aload_n 3 dL_law_576 rfl rfl ?_
  refine l_iload_n 0 dL_law_577 rfl rfl ?_
  refine l_iconst (v := nI 1) dL_law_578 (by decide) ?_
  refine l_iadd (nI (k + 1)) dL_law_579 (nI_add k 1) ?_
  refine l_sld (by omega) (by omega) dL_law_580 ?_
  refine l_aload_n 3 dL_law_581 rfl rfl ?_
  refine l_iload_n 0 dL_law_582 rfl rfl ?_
  refine l_iconst (v := nI 2) dL_law_583 (by decide) ?_
  refine l_iadd (nI (k + 2)) dL_law_584 (nI_add k 2) ?_
  refine l_sld (by omega) (by omega) dL_law_585 ?_
  refine l_callX (As := [.int (xs (k + 1)), .int (xs (k + 2))]) (rest := []) lL_70 rfl (ceX9_rule _ _ σ (xs (k + 1)) (xs (k + 2)) e1) ⟨Nat.le_of_ble_eq_true rfl, Nat.le_of_ble_eq_true rfl⟩ rfl rfl (Nat.le_of_ble_eq_true rfl) dL_law_586 ?_
  refine l_aload_n 1 dL_law_589 rfl rfl ?_
  refine l_aload_n 3 dL_law_590 rfl rfl ?_
  refine l_iload_n 0 dL_law_591 rfl rfl ?_
  refine l_iconst (v := nI 1) dL_law_592 (by decide) ?_
  refine l_iadd (nI (k + 1)) dL_law_593 (nI_add k 1) ?_
  refine l_sld (by omega) (by omega) dL_law_594 ?_
  refine l_aload_n 3 dL_law_595 rfl rfl ?_
  refine l_iload_n 0 dL_law_596 rfl rfl ?_
  refine l_iconst (v := nI 2) dL_law_597 (by decide) ?_
  refine l_iadd (nI (k + 2)) dL_law_598 (nI_add k 2) ?_
  refine l_sld (by omega) (by omega) dL_law_599 ?_
  refine l_callM (As := [.int (xs (k + 1)), .int (xs (k + 2))]) (rest := [.int r]) lL_73 rfl (ceX10_rule _ _ τ (xs (k + 1)) (xs (k + 2)) e2) ⟨Nat.le_of_ble_eq_true rfl, Nat.le_of_ble_eq_true rfl⟩ rfl rfl (Nat.le_of_ble_eq_true rfl) dL_law_600 ?_
  refine l_same 832 dL_law_603 (by decide) ?_
  exact K _ _ hR
theorem v_621 : Cond.methodLink RL 74 yX9_spend ∈ TBL := mTi 621 (by decide +kernel) rfl
theorem v_624 : Cond.code yX9_spend qX9_spend.2.1 qX9_spend.2.2.1 qX9_spend.2.2.2.1 ∈ TBL := mTi 624 (by decide +kernel) rfl
theorem v_622 : Cond.instanceMethod yX9_spend ∈ TBL := mTi 622 (by decide +kernel) rfl
theorem v_623 : Cond.selects RX9 yX9_spend yX9_spend ∈ TBL := mTi 623 (by decide +kernel) rfl
theorem lL_74 : LkV RL 74 yX9_spend qX9_spend 2 := ⟨⟨Or.inl v_621, v_51, v_624, by decide +kernel⟩, v_622, v_623⟩
theorem v_1051 : Cond.methodLink RL 77 yX10_spend ∈ TBL := mTi 1051 (by decide +kernel) rfl
theorem v_1054 : Cond.code yX10_spend qX10_spend.2.1 qX10_spend.2.2.1 qX10_spend.2.2.2.1 ∈ TBL := mTi 1054 (by decide +kernel) rfl
theorem v_1052 : Cond.instanceMethod yX10_spend ∈ TBL := mTi 1052 (by decide +kernel) rfl
theorem v_1053 : Cond.selects RX10 yX10_spend yX10_spend ∈ TBL := mTi 1053 (by decide +kernel) rfl
theorem lL_77 : LkV RL 77 yX10_spend qX10_spend 2 := ⟨⟨Or.inl v_1051, v_61, v_1054, by decide +kernel⟩, v_1052, v_1053⟩
set_option maxRecDepth 100000 in
theorem case_14 {E : XL} {b L : Nat} {xs : Nat → Int32} {σ τ : Mem} {k : Nat} (hL : L ≤ 3072) (hk : k + 6 ≤ L) (h : RelE σ τ) (K : ∀ σ' τ', RelE σ' τ' → GL E b L xs σ' τ' 832 [(3, .int (nI k)), (2, .ref (E.2.2.2.2.2.1 0)), (1, .ref (E.2.2.1.2.2.1 0)), (0, .ref b)] []) : GL E b L xs σ τ 608 [(3, .int (nI k)), (2, .ref (E.2.2.2.2.2.1 0)), (1, .ref (E.2.2.1.2.2.1 0)), (0, .ref b)] [] := by
  obtain ⟨r, σ2, τ2, e1, e2, hR⟩ := op_spend (xs (k + 1)) (xs (k + 2)) h
  refine l_aload_n 2 dL_law_608 rfl rfl ?_
  refine l_aload_n 3 dL_law_609 rfl rfl ?_
  refine l_iload_n 0 dL_law_610 rfl rfl ?_
  refine l_iconst (v := nI 1) dL_law_611 (by decide) ?_
  refine l_iadd (nI (k + 1)) dL_law_612 (nI_add k 1) ?_
  refine l_sld (by omega) (by omega) dL_law_613 ?_
  refine l_aload_n 3 dL_law_614 rfl rfl ?_
  refine l_iload_n 0 dL_law_615 rfl rfl ?_
  refine l_iconst (v := nI 2) dL_law_616 (by decide) ?_
  refine l_iadd (nI (k + 2)) dL_law_617 (nI_add k 2) ?_
  refine l_sld (by omega) (by omega) dL_law_618 ?_
  refine l_callX (As := [.int (xs (k + 1)), .int (xs (k + 2))]) (rest := []) lL_74 rfl (ceX9_spend _ _ σ (xs (k + 1)) (xs (k + 2)) e1) ⟨Nat.le_of_ble_eq_true rfl, Nat.le_of_ble_eq_true rfl⟩ rfl rfl (Nat.le_of_ble_eq_true rfl) dL_law_619 ?_
  refine l_aload_n 1 dL_law_622 rfl rfl ?_
  refine l_aload_n 3 dL_law_623 rfl rfl ?_
  refine l_iload_n 0 dL_law_624 rfl rfl ?_
  refine l_iconst (v := nI 1) dL_law_625 (by decide) ?_
  refine l_iadd (nI (k + 1)) dL_law_626 (nI_add k 1) ?_
  refine l_sld (by omega) (by omega) dL_law_627 ?_
  refine l_aload_n 3 dL_law_628 rfl rfl ?_
  refine l_iload_n 0 dL_law_629 rfl rfl ?_
  refine l_iconst (v := nI 2) dL_law_630 (by decide) ?_
  refine l_iadd (nI (k + 2)) dL_law_631 (nI_add k 2) ?_
  refine l_sld (by omega) (by omega) dL_law_632 ?_
  refine l_callM (As := [.int (xs (k + 1)), .int (xs (k + 2))]) (rest := [.int r]) lL_77 rfl (ceX10_spend _ _ τ (xs (k + 1)) (xs (k + 2)) e2) ⟨Nat.le_of_ble_eq_true rfl, Nat.le_of_ble_eq_true rfl⟩ rfl rfl (Nat.le_of_ble_eq_true rfl) dL_law_633 ?_
  refine l_same 832 dL_law_636 (by decide) ?_
  exact K _ _ hR
theorem v_650 : Cond.methodLink RL 78 yX9_work ∈ TBL := mTi 650 (by decide +kernel) rfl
theorem v_653 : Cond.code yX9_work qX9_work.2.1 qX9_work.2.2.1 qX9_work.2.2.2.1 ∈ TBL := mTi 653 (by decide +kernel) rfl
theorem v_651 : Cond.instanceMethod yX9_work ∈ TBL := mTi 651 (by decide +kernel) rfl
theorem v_652 : Cond.selects RX9 yX9_work yX9_work ∈ TBL := mTi 652 (by decide +kernel) rfl
theorem lL_78 : LkV RL 78 yX9_work qX9_work 2 := ⟨⟨Or.inl v_650, v_51, v_653, by decide +kernel⟩, v_651, v_652⟩
theorem v_1071 : Cond.methodLink RL 81 yX10_work ∈ TBL := mTi 1071 (by decide +kernel) rfl
theorem v_1074 : Cond.code yX10_work qX10_work.2.1 qX10_work.2.2.1 qX10_work.2.2.2.1 ∈ TBL := mTi 1074 (by decide +kernel) rfl
theorem v_1072 : Cond.instanceMethod yX10_work ∈ TBL := mTi 1072 (by decide +kernel) rfl
theorem v_1073 : Cond.selects RX10 yX10_work yX10_work ∈ TBL := mTi 1073 (by decide +kernel) rfl
theorem lL_81 : LkV RL 81 yX10_work qX10_work 2 := ⟨⟨Or.inl v_1071, v_61, v_1074, by decide +kernel⟩, v_1072, v_1073⟩
set_option maxRecDepth 100000 in
theorem case_15 {E : XL} {b L : Nat} {xs : Nat → Int32} {σ τ : Mem} {k : Nat} (hL : L ≤ 3072) (hk : k + 6 ≤ L) (h : RelE σ τ) (K : ∀ σ' τ', RelE σ' τ' → GL E b L xs σ' τ' 832 [(3, .int (nI k)), (2, .ref (E.2.2.2.2.2.1 0)), (1, .ref (E.2.2.1.2.2.1 0)), (0, .ref b)] []) : GL E b L xs σ τ 641 [(3, .int (nI k)), (2, .ref (E.2.2.2.2.2.1 0)), (1, .ref (E.2.2.1.2.2.1 0)), (0, .ref b)] [] := by
  obtain ⟨r, σ2, τ2, e1, e2, hR⟩ := op_work (xs (k + 1)) (xs (k + 2)) h
  refine l_aload_n 2 dL_law_641 rfl rfl ?_
  refine l_aload_n 3 dL_law_642 rfl rfl ?_
  refine l_iload_n 0 dL_law_643 rfl rfl ?_
  refine l_iconst (v := nI 1) dL_law_644 (by decide) ?_
  refine l_iadd (nI (k + 1)) dL_law_645 (nI_add k 1) ?_
  refine l_sld (by omega) (by omega) dL_law_646 ?_
  refine l_aload_n 3 dL_law_647 rfl rfl ?_
  refine l_iload_n 0 dL_law_648 rfl rfl ?_
  refine l_iconst (v := nI 2) dL_law_649 (by decide) ?_
  refine l_iadd (nI (k + 2)) dL_law_650 (nI_add k 2) ?_
  refine l_sld (by omega) (by omega) dL_law_651 ?_
  refine l_callX (As := [.int (xs (k + 1)), .int (xs (k + 2))]) (rest := []) lL_78 rfl (ceX9_work _ _ σ (xs (k + 1)) (xs (k + 2)) e1) ⟨Nat.le_of_ble_eq_true rfl, Nat.le_of_ble_eq_true rfl⟩ rfl rfl (Nat.le_of_ble_eq_true rfl) dL_law_652 ?_
  refine l_aload_n 1 dL_law_655 rfl rfl ?_
  refine l_aload_n 3 dL_law_656 rfl rfl ?_
  refine l_iload_n 0 dL_law_657 rfl rfl ?_
  refine l_iconst (v := nI 1) dL_law_658 (by decide) ?_
  refine l_iadd (nI (k + 1)) dL_law_659 (nI_add k 1) ?_
  refine l_sld (by omega) (by omega) dL_law_660 ?_
  refine l_aload_n 3 dL_law_661 rfl rfl ?_
  refine l_iload_n 0 dL_law_662 rfl rfl ?_
  refine l_iconst (v := nI 2) dL_law_663 (by decide) ?_
  refine l_iadd (nI (k + 2)) dL_law_664 (nI_add k 2) ?_
  refine l_sld (by omega) (by omega) dL_law_665 ?_
  refine l_callM (As := [.int (xs (k + 1)), .int (xs (k + 2))]) (rest := [.int r]) lL_81 rfl (ceX10_work _ _ τ (xs (k + 1)) (xs (k + 2)) e2) ⟨Nat.le_of_ble_eq_true rfl, Nat.le_of_ble_eq_true rfl⟩ rfl rfl (Nat.le_of_ble_eq_true rfl) dL_law_666 ?_
  refine l_same 832 dL_law_669 (by decide) ?_
  exact K _ _ hR
theorem v_671 : Cond.methodLink RL 82 yX9_years ∈ TBL := mTi 671 (by decide +kernel) rfl
theorem v_674 : Cond.code yX9_years qX9_years.2.1 qX9_years.2.2.1 qX9_years.2.2.2.1 ∈ TBL := mTi 674 (by decide +kernel) rfl
theorem v_672 : Cond.instanceMethod yX9_years ∈ TBL := mTi 672 (by decide +kernel) rfl
theorem v_673 : Cond.selects RX9 yX9_years yX9_years ∈ TBL := mTi 673 (by decide +kernel) rfl
theorem lL_82 : LkV RL 82 yX9_years qX9_years 1 := ⟨⟨Or.inl v_671, v_51, v_674, by decide +kernel⟩, v_672, v_673⟩
theorem v_1083 : Cond.methodLink RL 85 yX10_years ∈ TBL := mTi 1083 (by decide +kernel) rfl
theorem v_1086 : Cond.code yX10_years qX10_years.2.1 qX10_years.2.2.1 qX10_years.2.2.2.1 ∈ TBL := mTi 1086 (by decide +kernel) rfl
theorem v_1084 : Cond.instanceMethod yX10_years ∈ TBL := mTi 1084 (by decide +kernel) rfl
theorem v_1085 : Cond.selects RX10 yX10_years yX10_years ∈ TBL := mTi 1085 (by decide +kernel) rfl
theorem lL_85 : LkV RL 85 yX10_years qX10_years 1 := ⟨⟨Or.inl v_1083, v_61, v_1086, by decide +kernel⟩, v_1084, v_1085⟩
set_option maxRecDepth 100000 in
theorem case_16 {E : XL} {b L : Nat} {xs : Nat → Int32} {σ τ : Mem} {k : Nat} (hL : L ≤ 3072) (hk : k + 6 ≤ L) (h : RelE σ τ) (K : ∀ σ' τ', RelE σ' τ' → GL E b L xs σ' τ' 832 [(3, .int (nI k)), (2, .ref (E.2.2.2.2.2.1 0)), (1, .ref (E.2.2.1.2.2.1 0)), (0, .ref b)] []) : GL E b L xs σ τ 674 [(3, .int (nI k)), (2, .ref (E.2.2.2.2.2.1 0)), (1, .ref (E.2.2.1.2.2.1 0)), (0, .ref b)] [] := by
  obtain ⟨r, σ2, τ2, e1, e2, hR⟩ := op_years (xs (k + 1)) h
  refine l_aload_n 2 dL_law_674 rfl rfl ?_
  refine l_aload_n 3 dL_law_675 rfl rfl ?_
  refine l_iload_n 0 dL_law_676 rfl rfl ?_
  refine l_iconst (v := nI 1) dL_law_677 (by decide) ?_
  refine l_iadd (nI (k + 1)) dL_law_678 (nI_add k 1) ?_
  refine l_sld (by omega) (by omega) dL_law_679 ?_
  refine l_callX (As := [.int (xs (k + 1))]) (rest := []) lL_82 rfl (ceX9_years _ _ σ (xs (k + 1)) e1) ⟨Nat.le_of_ble_eq_true rfl, Nat.le_of_ble_eq_true rfl⟩ rfl rfl (Nat.le_of_ble_eq_true rfl) dL_law_680 ?_
  refine l_aload_n 1 dL_law_683 rfl rfl ?_
  refine l_aload_n 3 dL_law_684 rfl rfl ?_
  refine l_iload_n 0 dL_law_685 rfl rfl ?_
  refine l_iconst (v := nI 1) dL_law_686 (by decide) ?_
  refine l_iadd (nI (k + 1)) dL_law_687 (nI_add k 1) ?_
  refine l_sld (by omega) (by omega) dL_law_688 ?_
  refine l_callM (As := [.int (xs (k + 1))]) (rest := [.int r]) lL_85 rfl (ceX10_years _ _ τ (xs (k + 1)) e2) ⟨Nat.le_of_ble_eq_true rfl, Nat.le_of_ble_eq_true rfl⟩ rfl rfl (Nat.le_of_ble_eq_true rfl) dL_law_689 ?_
  refine l_same 832 dL_law_692 (by decide) ?_
  exact K _ _ hR
theorem v_720 : Cond.methodLink RL 86 yX9_row ∈ TBL := mTi 720 (by decide +kernel) rfl
theorem v_723 : Cond.code yX9_row qX9_row.2.1 qX9_row.2.2.1 qX9_row.2.2.2.1 ∈ TBL := mTi 723 (by decide +kernel) rfl
theorem v_721 : Cond.instanceMethod yX9_row ∈ TBL := mTi 721 (by decide +kernel) rfl
theorem v_722 : Cond.selects RX9 yX9_row yX9_row ∈ TBL := mTi 722 (by decide +kernel) rfl
theorem lL_86 : LkV RL 86 yX9_row qX9_row 2 := ⟨⟨Or.inl v_720, v_51, v_723, by decide +kernel⟩, v_721, v_722⟩
theorem v_1096 : Cond.methodLink RL 89 yX10_row ∈ TBL := mTi 1096 (by decide +kernel) rfl
theorem v_1099 : Cond.code yX10_row qX10_row.2.1 qX10_row.2.2.1 qX10_row.2.2.2.1 ∈ TBL := mTi 1099 (by decide +kernel) rfl
theorem v_1097 : Cond.instanceMethod yX10_row ∈ TBL := mTi 1097 (by decide +kernel) rfl
theorem v_1098 : Cond.selects RX10 yX10_row yX10_row ∈ TBL := mTi 1098 (by decide +kernel) rfl
theorem lL_89 : LkV RL 89 yX10_row qX10_row 2 := ⟨⟨Or.inl v_1096, v_61, v_1099, by decide +kernel⟩, v_1097, v_1098⟩
set_option maxRecDepth 100000 in
theorem case_17 {E : XL} {b L : Nat} {xs : Nat → Int32} {σ τ : Mem} {k : Nat} (hL : L ≤ 3072) (hk : k + 6 ≤ L) (h : RelE σ τ) (K : ∀ σ' τ', RelE σ' τ' → GL E b L xs σ' τ' 832 [(3, .int (nI k)), (2, .ref (E.2.2.2.2.2.1 0)), (1, .ref (E.2.2.1.2.2.1 0)), (0, .ref b)] []) : GL E b L xs σ τ 697 [(3, .int (nI k)), (2, .ref (E.2.2.2.2.2.1 0)), (1, .ref (E.2.2.1.2.2.1 0)), (0, .ref b)] [] := by
  obtain ⟨r, e1, e2⟩ := op_row (xs (k + 1)) (xs (k + 2)) h
  refine l_aload_n 2 dL_law_697 rfl rfl ?_
  refine l_aload_n 3 dL_law_698 rfl rfl ?_
  refine l_iload_n 0 dL_law_699 rfl rfl ?_
  refine l_iconst (v := nI 1) dL_law_700 (by decide) ?_
  refine l_iadd (nI (k + 1)) dL_law_701 (nI_add k 1) ?_
  refine l_sld (by omega) (by omega) dL_law_702 ?_
  refine l_aload_n 3 dL_law_703 rfl rfl ?_
  refine l_iload_n 0 dL_law_704 rfl rfl ?_
  refine l_iconst (v := nI 2) dL_law_705 (by decide) ?_
  refine l_iadd (nI (k + 2)) dL_law_706 (nI_add k 2) ?_
  refine l_sld (by omega) (by omega) dL_law_707 ?_
  refine l_callX (As := [.int (xs (k + 1)), .int (xs (k + 2))]) (rest := []) lL_86 rfl (ceX9_row _ _ σ (xs (k + 1)) (xs (k + 2)) e1) ⟨Nat.le_of_ble_eq_true rfl, Nat.le_of_ble_eq_true rfl⟩ rfl rfl (Nat.le_of_ble_eq_true rfl) dL_law_708 ?_
  refine l_aload_n 1 dL_law_711 rfl rfl ?_
  refine l_aload_n 3 dL_law_712 rfl rfl ?_
  refine l_iload_n 0 dL_law_713 rfl rfl ?_
  refine l_iconst (v := nI 1) dL_law_714 (by decide) ?_
  refine l_iadd (nI (k + 1)) dL_law_715 (nI_add k 1) ?_
  refine l_sld (by omega) (by omega) dL_law_716 ?_
  refine l_aload_n 3 dL_law_717 rfl rfl ?_
  refine l_iload_n 0 dL_law_718 rfl rfl ?_
  refine l_iconst (v := nI 2) dL_law_719 (by decide) ?_
  refine l_iadd (nI (k + 2)) dL_law_720 (nI_add k 2) ?_
  refine l_sld (by omega) (by omega) dL_law_721 ?_
  refine l_callM (As := [.int (xs (k + 1)), .int (xs (k + 2))]) (rest := [.int r]) lL_89 rfl (ceX10_row _ _ τ (xs (k + 1)) (xs (k + 2)) e2) ⟨Nat.le_of_ble_eq_true rfl, Nat.le_of_ble_eq_true rfl⟩ rfl rfl (Nat.le_of_ble_eq_true rfl) dL_law_722 ?_
  refine l_same 832 dL_law_725 (by decide) ?_
  exact K _ _ h
theorem v_728 : Cond.methodLink RL 90 yX9_roll ∈ TBL := mTi 728 (by decide +kernel) rfl
theorem v_731 : Cond.code yX9_roll qX9_roll.2.1 qX9_roll.2.2.1 qX9_roll.2.2.2.1 ∈ TBL := mTi 731 (by decide +kernel) rfl
theorem v_729 : Cond.instanceMethod yX9_roll ∈ TBL := mTi 729 (by decide +kernel) rfl
theorem v_730 : Cond.selects RX9 yX9_roll yX9_roll ∈ TBL := mTi 730 (by decide +kernel) rfl
theorem lL_90 : LkV RL 90 yX9_roll qX9_roll 2 := ⟨⟨Or.inl v_728, v_51, v_731, by decide +kernel⟩, v_729, v_730⟩
theorem v_1100 : Cond.methodLink RL 93 yX10_roll ∈ TBL := mTi 1100 (by decide +kernel) rfl
theorem v_1103 : Cond.code yX10_roll qX10_roll.2.1 qX10_roll.2.2.1 qX10_roll.2.2.2.1 ∈ TBL := mTi 1103 (by decide +kernel) rfl
theorem v_1101 : Cond.instanceMethod yX10_roll ∈ TBL := mTi 1101 (by decide +kernel) rfl
theorem v_1102 : Cond.selects RX10 yX10_roll yX10_roll ∈ TBL := mTi 1102 (by decide +kernel) rfl
theorem lL_93 : LkV RL 93 yX10_roll qX10_roll 2 := ⟨⟨Or.inl v_1100, v_61, v_1103, by decide +kernel⟩, v_1101, v_1102⟩
set_option maxRecDepth 100000 in
theorem case_18 {E : XL} {b L : Nat} {xs : Nat → Int32} {σ τ : Mem} {k : Nat} (hL : L ≤ 3072) (hk : k + 6 ≤ L) (h : RelE σ τ) (K : ∀ σ' τ', RelE σ' τ' → GL E b L xs σ' τ' 832 [(3, .int (nI k)), (2, .ref (E.2.2.2.2.2.1 0)), (1, .ref (E.2.2.1.2.2.1 0)), (0, .ref b)] []) : GL E b L xs σ τ 730 [(3, .int (nI k)), (2, .ref (E.2.2.2.2.2.1 0)), (1, .ref (E.2.2.1.2.2.1 0)), (0, .ref b)] [] := by
  obtain ⟨r, e1, e2⟩ := op_roll (xs (k + 1)) (xs (k + 2)) h
  refine l_aload_n 2 dL_law_730 rfl rfl ?_
  refine l_aload_n 3 dL_law_731 rfl rfl ?_
  refine l_iload_n 0 dL_law_732 rfl rfl ?_
  refine l_iconst (v := nI 1) dL_law_733 (by decide) ?_
  refine l_iadd (nI (k + 1)) dL_law_734 (nI_add k 1) ?_
  refine l_sld (by omega) (by omega) dL_law_735 ?_
  refine l_aload_n 3 dL_law_736 rfl rfl ?_
  refine l_iload_n 0 dL_law_737 rfl rfl ?_
  refine l_iconst (v := nI 2) dL_law_738 (by decide) ?_
  refine l_iadd (nI (k + 2)) dL_law_739 (nI_add k 2) ?_
  refine l_sld (by omega) (by omega) dL_law_740 ?_
  refine l_callX (As := [.int (xs (k + 1)), .int (xs (k + 2))]) (rest := []) lL_90 rfl (ceX9_roll _ _ σ (xs (k + 1)) (xs (k + 2)) e1) ⟨Nat.le_of_ble_eq_true rfl, Nat.le_of_ble_eq_true rfl⟩ rfl rfl (Nat.le_of_ble_eq_true rfl) dL_law_741 ?_
  refine l_aload_n 1 dL_law_744 rfl rfl ?_
  refine l_aload_n 3 dL_law_745 rfl rfl ?_
  refine l_iload_n 0 dL_law_746 rfl rfl ?_
  refine l_iconst (v := nI 1) dL_law_747 (by decide) ?_
  refine l_iadd (nI (k + 1)) dL_law_748 (nI_add k 1) ?_
  refine l_sld (by omega) (by omega) dL_law_749 ?_
  refine l_aload_n 3 dL_law_750 rfl rfl ?_
  refine l_iload_n 0 dL_law_751 rfl rfl ?_
  refine l_iconst (v := nI 2) dL_law_752 (by decide) ?_
  refine l_iadd (nI (k + 2)) dL_law_753 (nI_add k 2) ?_
  refine l_sld (by omega) (by omega) dL_law_754 ?_
  refine l_callM (As := [.int (xs (k + 1)), .int (xs (k + 2))]) (rest := [.int r]) lL_93 rfl (ceX10_roll _ _ τ (xs (k + 1)) (xs (k + 2)) e2) ⟨Nat.le_of_ble_eq_true rfl, Nat.le_of_ble_eq_true rfl⟩ rfl rfl (Nat.le_of_ble_eq_true rfl) dL_law_755 ?_
  refine l_same 832 dL_law_758 (by decide) ?_
  exact K _ _ h
theorem v_736 : Cond.methodLink RL 94 yX9_sum ∈ TBL := mTi 736 (by decide +kernel) rfl
theorem v_739 : Cond.code yX9_sum qX9_sum.2.1 qX9_sum.2.2.1 qX9_sum.2.2.2.1 ∈ TBL := mTi 739 (by decide +kernel) rfl
theorem v_737 : Cond.instanceMethod yX9_sum ∈ TBL := mTi 737 (by decide +kernel) rfl
theorem v_738 : Cond.selects RX9 yX9_sum yX9_sum ∈ TBL := mTi 738 (by decide +kernel) rfl
theorem lL_94 : LkV RL 94 yX9_sum qX9_sum 0 := ⟨⟨Or.inl v_736, v_51, v_739, by decide +kernel⟩, v_737, v_738⟩
theorem v_1104 : Cond.methodLink RL 97 yX10_sum ∈ TBL := mTi 1104 (by decide +kernel) rfl
theorem v_1107 : Cond.code yX10_sum qX10_sum.2.1 qX10_sum.2.2.1 qX10_sum.2.2.2.1 ∈ TBL := mTi 1107 (by decide +kernel) rfl
theorem v_1105 : Cond.instanceMethod yX10_sum ∈ TBL := mTi 1105 (by decide +kernel) rfl
theorem v_1106 : Cond.selects RX10 yX10_sum yX10_sum ∈ TBL := mTi 1106 (by decide +kernel) rfl
theorem lL_97 : LkV RL 97 yX10_sum qX10_sum 0 := ⟨⟨Or.inl v_1104, v_61, v_1107, by decide +kernel⟩, v_1105, v_1106⟩
set_option maxRecDepth 100000 in
theorem case_19 {E : XL} {b L : Nat} {xs : Nat → Int32} {σ τ : Mem} {k : Nat} (hL : L ≤ 3072) (hk : k + 6 ≤ L) (h : RelE σ τ) (K : ∀ σ' τ', RelE σ' τ' → GL E b L xs σ' τ' 832 [(3, .int (nI k)), (2, .ref (E.2.2.2.2.2.1 0)), (1, .ref (E.2.2.1.2.2.1 0)), (0, .ref b)] []) : GL E b L xs σ τ 763 [(3, .int (nI k)), (2, .ref (E.2.2.2.2.2.1 0)), (1, .ref (E.2.2.1.2.2.1 0)), (0, .ref b)] [] := by
  obtain ⟨r, e1, e2⟩ := op_sum  h
  refine l_aload_n 2 dL_law_763 rfl rfl ?_
  refine l_callX (As := []) (rest := []) lL_94 rfl (ceX9_sum _ _ σ  e1) ⟨Nat.le_of_ble_eq_true rfl, Nat.le_of_ble_eq_true rfl⟩ rfl rfl (Nat.le_of_ble_eq_true rfl) dL_law_764 ?_
  refine l_aload_n 1 dL_law_767 rfl rfl ?_
  refine l_callM (As := []) (rest := [.int r]) lL_97 rfl (ceX10_sum _ _ τ  e2) ⟨Nat.le_of_ble_eq_true rfl, Nat.le_of_ble_eq_true rfl⟩ rfl rfl (Nat.le_of_ble_eq_true rfl) dL_law_768 ?_
  refine l_same 832 dL_law_771 (by decide) ?_
  exact K _ _ h
theorem v_744 : Cond.methodLink RL 98 yX9_spent ∈ TBL := mTi 744 (by decide +kernel) rfl
theorem v_747 : Cond.code yX9_spent qX9_spent.2.1 qX9_spent.2.2.1 qX9_spent.2.2.2.1 ∈ TBL := mTi 747 (by decide +kernel) rfl
theorem v_745 : Cond.instanceMethod yX9_spent ∈ TBL := mTi 745 (by decide +kernel) rfl
theorem v_746 : Cond.selects RX9 yX9_spent yX9_spent ∈ TBL := mTi 746 (by decide +kernel) rfl
theorem lL_98 : LkV RL 98 yX9_spent qX9_spent 2 := ⟨⟨Or.inl v_744, v_51, v_747, by decide +kernel⟩, v_745, v_746⟩
theorem v_1108 : Cond.methodLink RL 101 yX10_spent ∈ TBL := mTi 1108 (by decide +kernel) rfl
theorem v_1111 : Cond.code yX10_spent qX10_spent.2.1 qX10_spent.2.2.1 qX10_spent.2.2.2.1 ∈ TBL := mTi 1111 (by decide +kernel) rfl
theorem v_1109 : Cond.instanceMethod yX10_spent ∈ TBL := mTi 1109 (by decide +kernel) rfl
theorem v_1110 : Cond.selects RX10 yX10_spent yX10_spent ∈ TBL := mTi 1110 (by decide +kernel) rfl
theorem lL_101 : LkV RL 101 yX10_spent qX10_spent 2 := ⟨⟨Or.inl v_1108, v_61, v_1111, by decide +kernel⟩, v_1109, v_1110⟩
set_option maxRecDepth 100000 in
theorem case_20 {E : XL} {b L : Nat} {xs : Nat → Int32} {σ τ : Mem} {k : Nat} (hL : L ≤ 3072) (hk : k + 6 ≤ L) (h : RelE σ τ) (K : ∀ σ' τ', RelE σ' τ' → GL E b L xs σ' τ' 832 [(3, .int (nI k)), (2, .ref (E.2.2.2.2.2.1 0)), (1, .ref (E.2.2.1.2.2.1 0)), (0, .ref b)] []) : GL E b L xs σ τ 776 [(3, .int (nI k)), (2, .ref (E.2.2.2.2.2.1 0)), (1, .ref (E.2.2.1.2.2.1 0)), (0, .ref b)] [] := by
  obtain ⟨r, e1, e2⟩ := op_spent (xs (k + 1)) (xs (k + 2)) h
  refine l_aload_n 2 dL_law_776 rfl rfl ?_
  refine l_aload_n 3 dL_law_777 rfl rfl ?_
  refine l_iload_n 0 dL_law_778 rfl rfl ?_
  refine l_iconst (v := nI 1) dL_law_779 (by decide) ?_
  refine l_iadd (nI (k + 1)) dL_law_780 (nI_add k 1) ?_
  refine l_sld (by omega) (by omega) dL_law_781 ?_
  refine l_aload_n 3 dL_law_782 rfl rfl ?_
  refine l_iload_n 0 dL_law_783 rfl rfl ?_
  refine l_iconst (v := nI 2) dL_law_784 (by decide) ?_
  refine l_iadd (nI (k + 2)) dL_law_785 (nI_add k 2) ?_
  refine l_sld (by omega) (by omega) dL_law_786 ?_
  refine l_callX (As := [.int (xs (k + 1)), .int (xs (k + 2))]) (rest := []) lL_98 rfl (ceX9_spent _ _ σ (xs (k + 1)) (xs (k + 2)) e1) ⟨Nat.le_of_ble_eq_true rfl, Nat.le_of_ble_eq_true rfl⟩ rfl rfl (Nat.le_of_ble_eq_true rfl) dL_law_787 ?_
  refine l_aload_n 1 dL_law_790 rfl rfl ?_
  refine l_aload_n 3 dL_law_791 rfl rfl ?_
  refine l_iload_n 0 dL_law_792 rfl rfl ?_
  refine l_iconst (v := nI 1) dL_law_793 (by decide) ?_
  refine l_iadd (nI (k + 1)) dL_law_794 (nI_add k 1) ?_
  refine l_sld (by omega) (by omega) dL_law_795 ?_
  refine l_aload_n 3 dL_law_796 rfl rfl ?_
  refine l_iload_n 0 dL_law_797 rfl rfl ?_
  refine l_iconst (v := nI 2) dL_law_798 (by decide) ?_
  refine l_iadd (nI (k + 2)) dL_law_799 (nI_add k 2) ?_
  refine l_sld (by omega) (by omega) dL_law_800 ?_
  refine l_callM (As := [.int (xs (k + 1)), .int (xs (k + 2))]) (rest := [.int r]) lL_101 rfl (ceX10_spent _ _ τ (xs (k + 1)) (xs (k + 2)) e2) ⟨Nat.le_of_ble_eq_true rfl, Nat.le_of_ble_eq_true rfl⟩ rfl rfl (Nat.le_of_ble_eq_true rfl) dL_law_801 ?_
  refine l_same 832 dL_law_804 (by decide) ?_
  exact K _ _ h
theorem v_748 : Cond.methodLink RL 102 yX9_count ∈ TBL := mTi 748 (by decide +kernel) rfl
theorem v_751 : Cond.code yX9_count qX9_count.2.1 qX9_count.2.2.1 qX9_count.2.2.2.1 ∈ TBL := mTi 751 (by decide +kernel) rfl
theorem v_749 : Cond.instanceMethod yX9_count ∈ TBL := mTi 749 (by decide +kernel) rfl
theorem v_750 : Cond.selects RX9 yX9_count yX9_count ∈ TBL := mTi 750 (by decide +kernel) rfl
theorem lL_102 : LkV RL 102 yX9_count qX9_count 1 := ⟨⟨Or.inl v_748, v_51, v_751, by decide +kernel⟩, v_749, v_750⟩
theorem v_1112 : Cond.methodLink RL 105 yX10_count ∈ TBL := mTi 1112 (by decide +kernel) rfl
theorem v_1115 : Cond.code yX10_count qX10_count.2.1 qX10_count.2.2.1 qX10_count.2.2.2.1 ∈ TBL := mTi 1115 (by decide +kernel) rfl
theorem v_1113 : Cond.instanceMethod yX10_count ∈ TBL := mTi 1113 (by decide +kernel) rfl
theorem v_1114 : Cond.selects RX10 yX10_count yX10_count ∈ TBL := mTi 1114 (by decide +kernel) rfl
theorem lL_105 : LkV RL 105 yX10_count qX10_count 1 := ⟨⟨Or.inl v_1112, v_61, v_1115, by decide +kernel⟩, v_1113, v_1114⟩
set_option maxRecDepth 100000 in
theorem case_21 {E : XL} {b L : Nat} {xs : Nat → Int32} {σ τ : Mem} {k : Nat} (hL : L ≤ 3072) (hk : k + 6 ≤ L) (h : RelE σ τ) (K : ∀ σ' τ', RelE σ' τ' → GL E b L xs σ' τ' 832 [(3, .int (nI k)), (2, .ref (E.2.2.2.2.2.1 0)), (1, .ref (E.2.2.1.2.2.1 0)), (0, .ref b)] []) : GL E b L xs σ τ 809 [(3, .int (nI k)), (2, .ref (E.2.2.2.2.2.1 0)), (1, .ref (E.2.2.1.2.2.1 0)), (0, .ref b)] [] := by
  obtain ⟨r, e1, e2⟩ := op_count (xs (k + 1)) h
  refine l_aload_n 2 dL_law_809 rfl rfl ?_
  refine l_aload_n 3 dL_law_810 rfl rfl ?_
  refine l_iload_n 0 dL_law_811 rfl rfl ?_
  refine l_iconst (v := nI 1) dL_law_812 (by decide) ?_
  refine l_iadd (nI (k + 1)) dL_law_813 (nI_add k 1) ?_
  refine l_sld (by omega) (by omega) dL_law_814 ?_
  refine l_callX (As := [.int (xs (k + 1))]) (rest := []) lL_102 rfl (ceX9_count _ _ σ (xs (k + 1)) e1) ⟨Nat.le_of_ble_eq_true rfl, Nat.le_of_ble_eq_true rfl⟩ rfl rfl (Nat.le_of_ble_eq_true rfl) dL_law_815 ?_
  refine l_aload_n 1 dL_law_818 rfl rfl ?_
  refine l_aload_n 3 dL_law_819 rfl rfl ?_
  refine l_iload_n 0 dL_law_820 rfl rfl ?_
  refine l_iconst (v := nI 1) dL_law_821 (by decide) ?_
  refine l_iadd (nI (k + 1)) dL_law_822 (nI_add k 1) ?_
  refine l_sld (by omega) (by omega) dL_law_823 ?_
  refine l_callM (As := [.int (xs (k + 1))]) (rest := [.int r]) lL_105 rfl (ceX10_count _ _ τ (xs (k + 1)) e2) ⟨Nat.le_of_ble_eq_true rfl, Nat.le_of_ble_eq_true rfl⟩ rfl rfl (Nat.le_of_ble_eq_true rfl) dL_law_824 ?_
  refine l_same 832 dL_law_827 (by decide) ?_
  exact K _ _ h
theorem lowN {k L : Nat} (hL : L ≤ 3072) (hk : k ≤ 3072) (c : ¬ nI L - nI 6 < nI k) : k + 6 ≤ L := by
  by_cases h6 : 6 ≤ L
  · rw [pk_sub h6, ltN (by omega) (by omega)] at c; omega
  · exfalso
    apply c
    exact Int32.lt_of_lt_of_le (pk_sneg (a := L) (b := 6) (by omega) (by omega)) (nI_pos' (by omega))
set_option maxRecDepth 100000 in
set_option maxHeartbeats 4000000 in
theorem law_loop {E : XL} {b L : Nat} {xs : Nat → Int32} (hL : L ≤ 3072) : ∀ (f k : Nat) (σ τ : Mem), L + 6 < k + f → k ≤ L → RelE σ τ → GL E b L xs σ τ 18 [(3, .int (nI k)), (2, .ref (E.2.2.2.2.2.1 0)), (1, .ref (E.2.2.1.2.2.1 0)), (0, .ref b)] [] := by
  intro f
  induction f with
  | zero => intro k σ τ h1 h2; omega
  | succ f ih =>
    intro k σ τ hf hk h
    refine l_iload_n 0 dL_law_18 rfl rfl ?_
    refine l_aload_n 3 dL_law_19 rfl rfl ?_
    refine l_slen dL_law_20 ?_
    refine l_bipush (v := nI 6) dL_law_21 (by decide) ?_
    refine l_isub _ dL_law_23 rfl ?_
    refine l_icmp_gt 838 dL_law_24 (by decide) (fun c => ?_) (fun c => ?_)
    · refine l_iconst (v := 1) dL_law_838 (by decide) ?_
      exact l_ret dL_law_839
    · have hk6 := lowN hL (by omega) c
      have K : ∀ σ' τ', RelE σ' τ' → GL E b L xs σ' τ' 832 [(3, .int (nI k)), (2, .ref (E.2.2.2.2.2.1 0)), (1, .ref (E.2.2.1.2.2.1 0)), (0, .ref b)] [] := by
        intro σ' τ' h'
        refine l_iinc (v := nI (k + 6)) 0 dL_law_832 rfl (nI_add k 6) (by decide) rfl ?_
        refine l_goto 18 dL_law_835 (by decide) ?_
        exact ih (k + 6) σ' τ' (by omega) (by omega) h'
      refine l_aload_n 3 dL_law_27 rfl rfl ?_
      refine l_iload_n 0 dL_law_28 rfl rfl ?_
      refine l_sld (by omega) (by omega) dL_law_29 ?_
      refine l_bipush (v := 31) dL_law_30 (by decide) ?_
      obtain ⟨v, hv, ev⟩ : ∃ v, v < 32 ∧ xs k &&& 31 = nI v := pk_andE (xs k) 5 (by decide)
      refine l_iand (nI v) dL_law_32 ev ?_
      by_cases c22 : v < 22
      · rcases (show v = 0 ∨ v = 1 ∨ v = 2 ∨ v = 3 ∨ v = 4 ∨ v = 5 ∨ v = 6 ∨ v = 7 ∨ v = 8 ∨ v = 9 ∨ v = 10 ∨ v = 11 ∨ v = 12 ∨ v = 13 ∨ v = 14 ∨ v = 15 ∨ v = 16 ∨ v = 17 ∨ v = 18 ∨ v = 19 ∨ v = 20 ∨ v = 21 by omega) with rfl | rfl | rfl | rfl | rfl | rfl | rfl | rfl | rfl | rfl | rfl | rfl | rfl | rfl | rfl | rfl | rfl | rfl | rfl | rfl | rfl | rfl
        · exact l_in (off := 103) 136 dL_law_33 (by decide) (by decide) (by decide) (by decide) (case_0 hL hk6 h K)
        · exact l_in (off := 126) 159 dL_law_33 (by decide) (by decide) (by decide) (by decide) (case_1 hL hk6 h K)
        · exact l_in (off := 169) 202 dL_law_33 (by decide) (by decide) (by decide) (by decide) (case_2 hL hk6 h K)
        · exact l_in (off := 202) 235 dL_law_33 (by decide) (by decide) (by decide) (by decide) (case_3 hL hk6 h K)
        · exact l_in (off := 235) 268 dL_law_33 (by decide) (by decide) (by decide) (by decide) (case_4 hL hk6 h K)
        · exact l_in (off := 278) 311 dL_law_33 (by decide) (by decide) (by decide) (by decide) (case_5 hL hk6 h K)
        · exact l_in (off := 321) 354 dL_law_33 (by decide) (by decide) (by decide) (by decide) (case_6 hL hk6 h K)
        · exact l_in (off := 384) 417 dL_law_33 (by decide) (by decide) (by decide) (by decide) (case_7 hL hk6 h K)
        · exact l_in (off := 407) 440 dL_law_33 (by decide) (by decide) (by decide) (by decide) (case_8 hL hk6 h K)
        · exact l_in (off := 450) 483 dL_law_33 (by decide) (by decide) (by decide) (by decide) (case_9 hL hk6 h K)
        · exact l_in (off := 473) 506 dL_law_33 (by decide) (by decide) (by decide) (by decide) (case_10 hL hk6 h K)
        · exact l_in (off := 486) 519 dL_law_33 (by decide) (by decide) (by decide) (by decide) (case_11 hL hk6 h K)
        · exact l_in (off := 519) 552 dL_law_33 (by decide) (by decide) (by decide) (by decide) (case_12 hL hk6 h K)
        · exact l_in (off := 542) 575 dL_law_33 (by decide) (by decide) (by decide) (by decide) (case_13 hL hk6 h K)
        · exact l_in (off := 575) 608 dL_law_33 (by decide) (by decide) (by decide) (by decide) (case_14 hL hk6 h K)
        · exact l_in (off := 608) 641 dL_law_33 (by decide) (by decide) (by decide) (by decide) (case_15 hL hk6 h K)
        · exact l_in (off := 641) 674 dL_law_33 (by decide) (by decide) (by decide) (by decide) (case_16 hL hk6 h K)
        · exact l_in (off := 664) 697 dL_law_33 (by decide) (by decide) (by decide) (by decide) (case_17 hL hk6 h K)
        · exact l_in (off := 697) 730 dL_law_33 (by decide) (by decide) (by decide) (by decide) (case_18 hL hk6 h K)
        · exact l_in (off := 730) 763 dL_law_33 (by decide) (by decide) (by decide) (by decide) (case_19 hL hk6 h K)
        · exact l_in (off := 743) 776 dL_law_33 (by decide) (by decide) (by decide) (by decide) (case_20 hL hk6 h K)
        · exact l_in (off := 776) 809 dL_law_33 (by decide) (by decide) (by decide) (by decide) (case_21 hL hk6 h K)
      · refine l_out 832 dL_law_33 (Or.inr ?_) (by decide) (K σ τ h)
        rcases (show v = 22 ∨ v = 23 ∨ v = 24 ∨ v = 25 ∨ v = 26 ∨ v = 27 ∨ v = 28 ∨ v = 29 ∨ v = 30 ∨ v = 31 by omega) with rfl | rfl | rfl | rfl | rfl | rfl | rfl | rfl | rfl | rfl <;> decide
