/-! bitCount, as the JDK has it -/
def q_ush (x y : Int32) : Int32 := (x.toUInt32 >>> (y.toUInt32 &&& Int32.toUInt32 31)).toInt32
def q_h1 (x : Int32) : Int32 := x - (q_ush x 1 &&& 1431655765)
def q_h2 (x : Int32) : Int32 := (x &&& 858993459) + (q_ush x 2 &&& 858993459)
def q_h3 (x : Int32) : Int32 := (x + q_ush x 4) &&& 252645135
def q_h4 (x : Int32) : Int32 := x + q_ush x 8
def q_h5 (x : Int32) : Int32 := x + q_ush x 16
def q_hd (x : Int32) : Int32 := q_h5 (q_h4 (q_h3 (q_h2 (q_h1 x)))) &&& 63
def q_votesI (n : Nat) (σ : qSt) (x : Int32) : Int32 := if q_node n x = true then q_hd (σ.1 3 x.toNatClampNeg) else -1
set_option maxHeartbeats 4000000 in
set_option maxRecDepth 100000 in
/-- Integer.bitCount -/
theorem c_J6_bitCount_0f7a4 (l : Launch) (dd : va_G) (ga : Nat → ClassId) (x : Int32) : Met l yJ6_bitCount_0f7a4 wsJ6_bitCount_0f7a4 ({ frames := 0, cells := 0, slots := 0, locals := 0 }) (qPc dd ga [.int x] (fun H => True)) (qQi (fun v _ => v = q_hd x) (fun _ => False)) 0 0 (fun _ => False) := by
  refine Met.ofW (cc := cJ6_bitCount_0f7a4) (maxL := 1) (ret := (some .int)) (by decide) rfl ?_
  intro p e s m args below meth c s₁ B hml hv
  obtain ⟨rfl, hP, hK⟩ := hv
  have hx := B.exec
  have hb := B.bytes
  have hr := B.returns
  have hts := atoms_spec (ws := wsJ6_bitCount_0f7a4) B.pre
  have hown : s.vm.findClass RJ6 = some m.cls := findClass_of_methodNamed B.named
  have hlocks := B.notSynchronized
  have hS : qS (fun _ => False) s.heap s.heap [] := qS.rf
  have hl := lv_entry ([.int x]) (n := 1) (Nat.le_of_ble_eq_true rfl)
  rw [lg_entry_eq]
  generalize (lg_sl ([.int x]) ++ List.replicate (1 - (lg_sl ([.int x])).length) Slot.unset).toArray = ls at hl ⊢
  refine lv_iload_n hx hb dJ6_bitCount_0f7a4_0 rfl (lv_at hl 0 rfl) ?_
  refine lv_iload_n hx hb dJ6_bitCount_0f7a4_1 rfl (lv_at hl 0 rfl) ?_
  refine lv_iconst (v := 1) hx hb dJ6_bitCount_0f7a4_2 (by decide) ?_
  refine lv_iushr hx hb dJ6_bitCount_0f7a4_3 rfl ?_
  refine lv_ldcw (v := (1431655765)) hx hb hown (hts (.constant RJ6 265 (1431655765)) (by decide +kernel)) dJ6_bitCount_0f7a4_4 ?_
  refine lv_iand hx hb dJ6_bitCount_0f7a4_7 ?_
  refine lv_isub hx hb dJ6_bitCount_0f7a4_8 ?_
  refine q_ti (y := q_h1 x) (rfl) ?_
  refine lv_istore_n (lv' := [(0, .int (q_h1 x))]) hx hb dJ6_bitCount_0f7a4_9 rfl hl (by decide) rfl (fun ls hl => ?_)
  refine lv_iload_n hx hb dJ6_bitCount_0f7a4_10 rfl (lv_at hl 0 rfl) ?_
  refine lv_ldcw (v := (858993459)) hx hb hown (hts (.constant RJ6 266 (858993459)) (by decide +kernel)) dJ6_bitCount_0f7a4_11 ?_
  refine lv_iand hx hb dJ6_bitCount_0f7a4_14 ?_
  refine lv_iload_n hx hb dJ6_bitCount_0f7a4_15 rfl (lv_at hl 0 rfl) ?_
  refine lv_iconst (v := 2) hx hb dJ6_bitCount_0f7a4_16 (by decide) ?_
  refine lv_iushr hx hb dJ6_bitCount_0f7a4_17 rfl ?_
  refine lv_ldcw (v := (858993459)) hx hb hown (hts (.constant RJ6 266 (858993459)) (by decide +kernel)) dJ6_bitCount_0f7a4_18 ?_
  refine lv_iand hx hb dJ6_bitCount_0f7a4_21 ?_
  refine lv_iadd hx hb dJ6_bitCount_0f7a4_22 ?_
  refine q_ti (y := q_h2 (q_h1 x)) (rfl) ?_
  refine lv_istore_n (lv' := [(0, .int (q_h2 (q_h1 x)))]) hx hb dJ6_bitCount_0f7a4_23 rfl hl (by decide) rfl (fun ls hl => ?_)
  refine lv_iload_n hx hb dJ6_bitCount_0f7a4_24 rfl (lv_at hl 0 rfl) ?_
  refine lv_iload_n hx hb dJ6_bitCount_0f7a4_25 rfl (lv_at hl 0 rfl) ?_
  refine lv_iconst (v := 4) hx hb dJ6_bitCount_0f7a4_26 (by decide) ?_
  refine lv_iushr hx hb dJ6_bitCount_0f7a4_27 rfl ?_
  refine lv_iadd hx hb dJ6_bitCount_0f7a4_28 ?_
  refine lv_ldcw (v := (252645135)) hx hb hown (hts (.constant RJ6 267 (252645135)) (by decide +kernel)) dJ6_bitCount_0f7a4_29 ?_
  refine lv_iand hx hb dJ6_bitCount_0f7a4_32 ?_
  refine q_ti (y := q_h3 (q_h2 (q_h1 x))) (rfl) ?_
  refine lv_istore_n (lv' := [(0, .int (q_h3 (q_h2 (q_h1 x))))]) hx hb dJ6_bitCount_0f7a4_33 rfl hl (by decide) rfl (fun ls hl => ?_)
  refine lv_iload_n hx hb dJ6_bitCount_0f7a4_34 rfl (lv_at hl 0 rfl) ?_
  refine lv_iload_n hx hb dJ6_bitCount_0f7a4_35 rfl (lv_at hl 0 rfl) ?_
  refine lv_bipush (v := 8) hx hb dJ6_bitCount_0f7a4_36 (by decide) ?_
  refine lv_iushr hx hb dJ6_bitCount_0f7a4_38 rfl ?_
  refine lv_iadd hx hb dJ6_bitCount_0f7a4_39 ?_
  refine q_ti (y := q_h4 (q_h3 (q_h2 (q_h1 x)))) (rfl) ?_
  refine lv_istore_n (lv' := [(0, .int (q_h4 (q_h3 (q_h2 (q_h1 x)))))]) hx hb dJ6_bitCount_0f7a4_40 rfl hl (by decide) rfl (fun ls hl => ?_)
  refine lv_iload_n hx hb dJ6_bitCount_0f7a4_41 rfl (lv_at hl 0 rfl) ?_
  refine lv_iload_n hx hb dJ6_bitCount_0f7a4_42 rfl (lv_at hl 0 rfl) ?_
  refine lv_bipush (v := 16) hx hb dJ6_bitCount_0f7a4_43 (by decide) ?_
  refine lv_iushr hx hb dJ6_bitCount_0f7a4_45 rfl ?_
  refine lv_iadd hx hb dJ6_bitCount_0f7a4_46 ?_
  refine q_ti (y := q_h5 (q_h4 (q_h3 (q_h2 (q_h1 x))))) (rfl) ?_
  refine lv_istore_n (lv' := [(0, .int (q_h5 (q_h4 (q_h3 (q_h2 (q_h1 x))))))]) hx hb dJ6_bitCount_0f7a4_47 rfl hl (by decide) rfl (fun ls hl => ?_)
  refine lv_iload_n hx hb dJ6_bitCount_0f7a4_48 rfl (lv_at hl 0 rfl) ?_
  refine lv_bipush (v := 63) hx hb dJ6_bitCount_0f7a4_49 (by decide) ?_
  refine lv_iand hx hb dJ6_bitCount_0f7a4_51 ?_
  exact q_iret hx hb hr hlocks hS rfl dJ6_bitCount_0f7a4_52
set_option maxHeartbeats 4000000 in
set_option maxRecDepth 100000 in
/-- X4_votesOf -/
theorem c_X4_votesOf (l : Launch) (dd : va_G) (ga : Nat → ClassId) (n k : Nat) (ad : Nat → Nat → Nat) (σ : qSt) (hsq : qSq n k) (hL : qL n ad) (x : Int32) : Met l yX4_votesOf wsX4_votesOf ({ frames := 1, cells := 0, slots := 0, locals := 21 }) (qPc dd ga [.ref (ad 0 0), .int x] (fun H => qC dd ga n k ad σ H)) (qQi (fun v H => v = q_votesI n σ x ∧ qC dd ga n k ad σ H) (qA n ad)) 0 0 (qA n ad) := by
  rcases q_nodeC hsq.n.2 x with ⟨hnx, i, hi, rfl⟩ | hnx
  · refine Met.ofW (cc := cX4_votesOf) (maxL := 2) (ret := (some .int)) (by decide) rfl ?_
    intro p e s m args below meth c s₁ B hml hv
    obtain ⟨rfl, hC, hK⟩ := hv
    have hx := B.exec
    have hb := B.bytes
    have hr := B.returns
    have hts := atoms_spec (ws := wsX4_votesOf) B.pre
    have hown : s.vm.findClass RX4 = some m.cls := findClass_of_methodNamed B.named
    have hlocks := B.notSynchronized
    have hS : qS (qA n ad) s.heap s.heap [] := qS.rf
    have hl := lv_entry ([.ref (ad 0 0), .int (nI i)]) (n := 2) (Nat.le_of_ble_eq_true rfl)
    rw [lg_entry_eq]
    generalize (lg_sl ([.ref (ad 0 0), .int (nI i)]) ++ List.replicate (2 - (lg_sl ([.ref (ad 0 0), .int (nI i)])).length) Slot.unset).toArray = ls at hl ⊢
    have hin0 : ∀ w ∈ wsX00, w ∈ wsX4_votesOf := by decide +kernel
    have hin4 : ∀ w ∈ wsX40, w ∈ wsX4_votesOf := by decide +kernel
    have hn1 := hsq.n.1
    have hn16 := hsq.n.2
    have hI : q_votesI n σ (nI i) = q_hd (σ.1 3 i) := by rw [q_votesI, if_pos hnx, nI_clamp (by omega)]
    refine lv_aload_n hx hb dX4_votesOf_0 rfl (lv_at hl 0 rfl) ?_
    refine lv_iload_n hx hb dX4_votesOf_1 rfl (lv_at hl 1 rfl) ?_
    refine qc_i (va_runV (As := [.int (nI i)]) (rest := []) ⟨hx, hb, hml, hown, hts⟩ (c_X4_isNode l dd ga n k ad σ hsq hL (nI i)) (cwV 1 hts gX4_votesOf_X4_isNode rfl rfl rfl (by decide +kernel) ⟨Nat.le_of_ble_eq_true rfl, Nat.le_of_ble_eq_true rfl⟩) (qpreV hK hC hC.self rfl) rfl rfl hl.1 rfl (lv_room (Nat.le_of_ble_eq_true rfl)) dX4_votesOf_2 ⟨Nat.zero_le _, Nat.zero_le _⟩) hS (fun q h => h.elim) (fun v2 H locs hp9 hz9 ho9 hS => ?_)
    have ev2 : v2 = _ := hp9
    have hC := hC.same (fun q => ho9 q (fun h => h))
    refine lv_if_eq (tgt := 23) hx hb dX4_votesOf_5 (by decide) (fun c_5 => absurd c_5 (by rw [ev2, if_pos hnx]; decide)) (fun c_5 => ?_)
    refine lv_aload_n hx hb dX4_votesOf_8 rfl (lv_at hl 0 rfl) ?_
    refine qr_get (ci := 4) (C := RX4) (T := TX4) (N := 7) hx hb hts hin4 hown hK hC.self rfl 3 (by decide) (hts (.fieldLink RX4 31 "QuorumLock" "askers" "[LQuorumLock$Asker;") (by decide +kernel)) rfl dX4_votesOf_9 ?_
    refine lv_iload_n hx hb dX4_votesOf_12 rfl (lv_at hl 1 rfl) ?_
    refine qr_aald (v := ad 10 i) hx hb hK 2 hC.arA rfl i (by omega) (by omega) rfl rfl dX4_votesOf_13 ?_
    refine qr_get (ci := 0) (C := RX0) (T := TX0) (N := 5) hx hb hts hin0 hown hK (hC.ask i hi) rfl 2 (by decide) (hts (.fieldLink RX4 94 "QuorumLock$Asker" "votes" "I") (by decide +kernel)) rfl dX4_votesOf_14 ?_
    refine qc_i (va_runS (As := [.int (σ.1 3 i)]) (rest := []) ⟨hx, hb, hml, hown, hts⟩ (c_J6_bitCount_0f7a4 l dd ga (σ.1 3 i)) (va_cwS 1 hts gX4_votesOf_J6_bitCount_0f7a4 rfl rfl rfl (by decide +kernel) ⟨Nat.le_of_ble_eq_true rfl, Nat.le_of_ble_eq_true rfl⟩) (qpreS hK trivial) rfl rfl hl.1 rfl (lv_room (Nat.le_of_ble_eq_true rfl)) dX4_votesOf_17 ⟨Nat.zero_le _, Nat.zero_le _⟩) hS (fun q h => h.elim) (fun v17 H locs hp9 hz9 ho9 hS => ?_)
    subst hp9
    have hC := hC.same (fun q => ho9 q (fun h => h))
    refine lv_goto (tgt := 24) hx hb dX4_votesOf_20 (by decide) ?_
    exact q_iret hx hb hr hlocks hS (⟨hI.symm, hC⟩) dX4_votesOf_24
  · refine Met.ofW (cc := cX4_votesOf) (maxL := 2) (ret := (some .int)) (by decide) rfl ?_
    intro p e s m args below meth c s₁ B hml hv
    obtain ⟨rfl, hC, hK⟩ := hv
    have hx := B.exec
    have hb := B.bytes
    have hr := B.returns
    have hts := atoms_spec (ws := wsX4_votesOf) B.pre
    have hown : s.vm.findClass RX4 = some m.cls := findClass_of_methodNamed B.named
    have hlocks := B.notSynchronized
    have hS : qS (qA n ad) s.heap s.heap [] := qS.rf
    have hl := lv_entry ([.ref (ad 0 0), .int x]) (n := 2) (Nat.le_of_ble_eq_true rfl)
    rw [lg_entry_eq]
    generalize (lg_sl ([.ref (ad 0 0), .int x]) ++ List.replicate (2 - (lg_sl ([.ref (ad 0 0), .int x])).length) Slot.unset).toArray = ls at hl ⊢
    have hin0 : ∀ w ∈ wsX00, w ∈ wsX4_votesOf := by decide +kernel
    have hin4 : ∀ w ∈ wsX40, w ∈ wsX4_votesOf := by decide +kernel
    have hn1 := hsq.n.1
    have hn16 := hsq.n.2
    have hI : q_votesI n σ x = -1 := by rw [q_votesI, if_neg (by rw [hnx]; decide)]
    refine lv_aload_n hx hb dX4_votesOf_0 rfl (lv_at hl 0 rfl) ?_
    refine lv_iload_n hx hb dX4_votesOf_1 rfl (lv_at hl 1 rfl) ?_
    refine qc_i (va_runV (As := [.int x]) (rest := []) ⟨hx, hb, hml, hown, hts⟩ (c_X4_isNode l dd ga n k ad σ hsq hL x) (cwV 1 hts gX4_votesOf_X4_isNode rfl rfl rfl (by decide +kernel) ⟨Nat.le_of_ble_eq_true rfl, Nat.le_of_ble_eq_true rfl⟩) (qpreV hK hC hC.self rfl) rfl rfl hl.1 rfl (lv_room (Nat.le_of_ble_eq_true rfl)) dX4_votesOf_2 ⟨Nat.zero_le _, Nat.zero_le _⟩) hS (fun q h => h.elim) (fun v2 H locs hp9 hz9 ho9 hS => ?_)
    have ev2 : v2 = _ := hp9
    have hC := hC.same (fun q => ho9 q (fun h => h))
    refine lv_if_eq (tgt := 23) hx hb dX4_votesOf_5 (by decide) (fun c_5 => ?_) (fun c_5 => absurd (by rw [ev2, if_neg (by rw [hnx]; decide)]) c_5)
    refine lv_iconst (v := (-1)) hx hb dX4_votesOf_23 (by decide) ?_
    exact q_iret hx hb hr hlocks hS (⟨hI.symm, hC⟩) dX4_votesOf_24
