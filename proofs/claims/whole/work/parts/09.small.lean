/-! the class's own small methods -/
theorem qA.wir {n : Nat} {ad : Nat → Nat → Nat} {q : Nat} (h : q = ad 5 0 ∨ q = ad 6 0 ∨ q = ad 7 0 ∨ q = ad 8 0 ∨ q = ad 9 0) : qA n ad q := by
  rcases h with h | h | h | h | h
  · exact ⟨5, 0, qd.z (by decide), h⟩
  · exact ⟨6, 0, qd.z (by decide), h⟩
  · exact ⟨7, 0, qd.z (by decide), h⟩
  · exact ⟨8, 0, qd.z (by decide), h⟩
  · exact ⟨9, 0, qd.z (by decide), h⟩
theorem qA.at {n : Nat} {ad : Nat → Nat → Nat} {q a i : Nat} (h1 : 10 ≤ a) (h2 : a < 15) (hi : i < n) (h : q = ad a i) : qA n ad q := ⟨a, i, qd.i h1 h2 hi, h⟩
theorem qA.row {n : Nat} {ad : Nat → Nat → Nat} {q i : Nat} (hi : i < n) (h : q = ad 12 i ∨ q = ad 13 i ∨ q = ad 14 i) : qA n ad q := by
  rcases h with h | h | h
  · exact ⟨12, i, qd.i (by decide) (by decide) hi, h⟩
  · exact ⟨13, i, qd.i (by decide) (by decide) hi, h⟩
  · exact ⟨14, i, qd.i (by decide) (by decide) hi, h⟩
def q_node (n : Nat) (x : Int32) : Bool := decide (¬ (x < 0 ∨ nI n ≤ x))
theorem q_nodeC {n : Nat} (hn : n ≤ 16) (x : Int32) : (q_node n x = true ∧ ∃ j : Nat, j < n ∧ x = nI j) ∨ q_node n x = false := by
  rcases pk_ix x (n := n) (by omega) with h | h | h
  · right; simp [q_node, h]
  · right; simp [q_node, h]
  · obtain ⟨j, hj, rfl⟩ := h
    left
    refine ⟨?_, j, hj, rfl⟩
    simp only [q_node, decide_eq_true_eq]
    rintro (h | h)
    · exact absurd h (nI_pos (by omega))
    · exact absurd h (nI_ge hj (by omega))
theorem q_nodeY {n j : Nat} (hn : n ≤ 16) (hj : j < n) : q_node n (nI j) = true := by
  simp only [q_node, decide_eq_true_eq]
  rintro (h | h)
  · exact absurd h (nI_pos (by omega))
  · exact absurd h (nI_ge hj (by omega))
set_option maxHeartbeats 4000000 in
set_option maxRecDepth 100000 in
/-- X4_has -/
theorem c_X4_has (l : Launch) (dd : va_G) (ga : Nat → ClassId) (x : Int32) (j : Nat) : Met l yX4_has wsX4_has ({ frames := 0, cells := 0, slots := 0, locals := 0 }) (qPc dd ga [.int x, .int (nI j)] (fun H => True)) (qQi (fun v _ => v = if q_has x j = true then 1 else 0) (fun _ => False)) 0 0 (fun _ => False) := by
  refine Met.ofW (cc := cX4_has) (maxL := 2) (ret := (some .boolean)) (by decide) rfl ?_
  intro p e s m args below meth c s₁ B hml hv
  obtain ⟨rfl, hP, hK⟩ := hv
  have hx := B.exec
  have hb := B.bytes
  have hr := B.returns
  have hts := atoms_spec (ws := wsX4_has) B.pre
  have hown : s.vm.findClass RX4 = some m.cls := findClass_of_methodNamed B.named
  have hlocks := B.notSynchronized
  have hS : qS (fun _ => False) s.heap s.heap [] := qS.rf
  have hl := lv_entry ([.int x, .int (nI j)]) (n := 2) (Nat.le_of_ble_eq_true rfl)
  rw [lg_entry_eq]
  generalize (lg_sl ([.int x, .int (nI j)]) ++ List.replicate (2 - (lg_sl ([.int x, .int (nI j)])).length) Slot.unset).toArray = ls at hl ⊢
  refine lv_iload_n hx hb dX4_has_0 rfl (lv_at hl 0 rfl) ?_
  refine lv_iload_n hx hb dX4_has_1 rfl (lv_at hl 1 rfl) ?_
  refine lv_ishr hx hb dX4_has_2 ?_
  refine lv_iconst (v := 1) hx hb dX4_has_3 (by decide) ?_
  refine lv_iand hx hb dX4_has_4 ?_
  refine lv_iconst (v := 1) hx hb dX4_has_5 (by decide) ?_
  refine lv_icmp_ne (tgt := 13) hx hb dX4_has_6 (by decide) (fun c_6 => ?_) (fun c_6 => ?_)
  · refine lv_iconst (v := 0) hx hb dX4_has_13 (by decide) ?_
    exact q_zret hx hb hr hlocks rfl hS (by simp [q_has, c_6]) dX4_has_14
  · refine lv_iconst (v := 1) hx hb dX4_has_9 (by decide) ?_
    refine lv_goto (tgt := 14) hx hb dX4_has_10 (by decide) ?_
    exact q_zret hx hb hr hlocks rfl hS (by simp [q_has, c_6]) dX4_has_14
set_option maxHeartbeats 4000000 in
set_option maxRecDepth 100000 in
/-- X4_isNode -/
theorem c_X4_isNode (l : Launch) (dd : va_G) (ga : Nat → ClassId) (n k : Nat) (ad : Nat → Nat → Nat) (σ : qSt) (hsq : qSq n k) (hL : qL n ad) (x : Int32) : Met l yX4_isNode wsX4_isNode ({ frames := 0, cells := 0, slots := 0, locals := 0 }) (qPc dd ga [.ref (ad 0 0), .int x] (fun H => qC dd ga n k ad σ H)) (qQi (fun v _ => v = if q_node n x = true then 1 else 0) (fun _ => False)) 0 0 (fun _ => False) := by
  refine Met.ofW (cc := cX4_isNode) (maxL := 2) (ret := (some .boolean)) (by decide) rfl ?_
  intro p e s m args below meth c s₁ B hml hv
  obtain ⟨rfl, hC, hK⟩ := hv
  have hx := B.exec
  have hb := B.bytes
  have hr := B.returns
  have hts := atoms_spec (ws := wsX4_isNode) B.pre
  have hown : s.vm.findClass RX4 = some m.cls := findClass_of_methodNamed B.named
  have hlocks := B.notSynchronized
  have hS : qS (fun _ => False) s.heap s.heap [] := qS.rf
  have hl := lv_entry ([.ref (ad 0 0), .int x]) (n := 2) (Nat.le_of_ble_eq_true rfl)
  rw [lg_entry_eq]
  generalize (lg_sl ([.ref (ad 0 0), .int x]) ++ List.replicate (2 - (lg_sl ([.ref (ad 0 0), .int x])).length) Slot.unset).toArray = ls at hl ⊢
  have hin4 : ∀ w ∈ wsX40, w ∈ wsX4_isNode := by decide +kernel
  have hn1 := hsq.n.1
  have hn16 := hsq.n.2
  refine lv_iload_n hx hb dX4_isNode_0 rfl (lv_at hl 1 rfl) ?_
  refine lv_if_lt (tgt := 16) hx hb dX4_isNode_1 (by decide) (fun c_1 => ?_) (fun c_1 => ?_)
  · refine lv_iconst (v := 0) hx hb dX4_isNode_16 (by decide) ?_
    exact q_zret hx hb hr hlocks rfl hS (by simp_all [q_node]) dX4_isNode_17
  · refine lv_iload_n hx hb dX4_isNode_4 rfl (lv_at hl 1 rfl) ?_
    refine lv_aload_n hx hb dX4_isNode_5 rfl (lv_at hl 0 rfl) ?_
    refine qr_get (ci := 4) (C := RX4) (T := TX4) (N := 7) hx hb hts hin4 hown hK hC.self rfl 0 (by decide) (hts (.fieldLink RX4 18 "QuorumLock" "nodes" "I") (by decide +kernel)) rfl dX4_isNode_6 ?_
    refine lv_icmp_ge (tgt := 16) hx hb dX4_isNode_9 (by decide) (fun c_9 => ?_) (fun c_9 => ?_)
    · refine lv_iconst (v := 0) hx hb dX4_isNode_16 (by decide) ?_
      exact q_zret hx hb hr hlocks rfl hS (by simp_all [q_node]) dX4_isNode_17
    · refine lv_iconst (v := 1) hx hb dX4_isNode_12 (by decide) ?_
      refine lv_goto (tgt := 17) hx hb dX4_isNode_13 (by decide) ?_
      exact q_zret hx hb hr hlocks rfl hS (by simp_all [q_node]) dX4_isNode_17
set_option maxHeartbeats 4000000 in
set_option maxRecDepth 100000 in
/-- X4_isWire -/
theorem c_X4_isWire (l : Launch) (dd : va_G) (ga : Nat → ClassId) (n k : Nat) (ad : Nat → Nat → Nat) (σ : qSt) (hsq : qSq n k) (hL : qL n ad) (x y : Int32) : Met l yX4_isWire wsX4_isWire ({ frames := 1, cells := 0, slots := 0, locals := 21 }) (qPc dd ga [.ref (ad 0 0), .int x, .int y] (fun H => qC dd ga n k ad σ H)) (qQi (fun v _ => v = if q_node n x = true ∧ q_node n y = true then 1 else 0) (fun _ => False)) 0 0 (fun _ => False) := by
  refine Met.ofW (cc := cX4_isWire) (maxL := 3) (ret := (some .boolean)) (by decide) rfl ?_
  intro p e s m args below meth c s₁ B hml hv
  obtain ⟨rfl, hC, hK⟩ := hv
  have hx := B.exec
  have hb := B.bytes
  have hr := B.returns
  have hts := atoms_spec (ws := wsX4_isWire) B.pre
  have hown : s.vm.findClass RX4 = some m.cls := findClass_of_methodNamed B.named
  have hlocks := B.notSynchronized
  have hS : qS (fun _ => False) s.heap s.heap [] := qS.rf
  have hl := lv_entry ([.ref (ad 0 0), .int x, .int y]) (n := 3) (Nat.le_of_ble_eq_true rfl)
  rw [lg_entry_eq]
  generalize (lg_sl ([.ref (ad 0 0), .int x, .int y]) ++ List.replicate (3 - (lg_sl ([.ref (ad 0 0), .int x, .int y])).length) Slot.unset).toArray = ls at hl ⊢
  have hin4 : ∀ w ∈ wsX40, w ∈ wsX4_isWire := by decide +kernel
  have hn1 := hsq.n.1
  have hn16 := hsq.n.2
  refine lv_aload_n hx hb dX4_isWire_0 rfl (lv_at hl 0 rfl) ?_
  refine lv_iload_n hx hb dX4_isWire_1 rfl (lv_at hl 1 rfl) ?_
  refine qc_i (va_runV (As := [.int x]) (rest := []) ⟨hx, hb, hml, hown, hts⟩ (c_X4_isNode l dd ga n k ad σ hsq hL x) (cwV 1 hts gX4_isWire_X4_isNode rfl rfl rfl (by decide +kernel) ⟨Nat.le_of_ble_eq_true rfl, Nat.le_of_ble_eq_true rfl⟩) (qpreV hK hC hC.self rfl) rfl rfl hl.1 rfl (lv_room (Nat.le_of_ble_eq_true rfl)) dX4_isWire_2 ⟨Nat.zero_le _, Nat.zero_le _⟩) hS (fun q h => h) (fun v2 H locs hp9 hz9 ho9 hS => ?_)
  have ev2 : v2 = _ := hp9
  have hC := hC.same (fun q => ho9 q (fun h => h))
  refine lv_if_eq (tgt := 20) hx hb dX4_isWire_5 (by decide) (fun c_5 => ?_) (fun c_5 => ?_)
  · refine lv_iconst (v := 0) hx hb dX4_isWire_20 (by decide) ?_
    exact q_zret hx hb hr hlocks rfl hS (by split at ev2 <;> first | (split at ev10 <;> simp_all) | simp_all) dX4_isWire_21
  · refine lv_aload_n hx hb dX4_isWire_8 rfl (lv_at hl 0 rfl) ?_
    refine lv_iload_n hx hb dX4_isWire_9 rfl (lv_at hl 2 rfl) ?_
    refine qc_i (va_runV (As := [.int y]) (rest := []) ⟨hx, hb, hml, hown, hts⟩ (c_X4_isNode l dd ga n k ad σ hsq hL y) (cwV 1 hts gX4_isWire_X4_isNode rfl rfl rfl (by decide +kernel) ⟨Nat.le_of_ble_eq_true rfl, Nat.le_of_ble_eq_true rfl⟩) (qpreV hK hC hC.self rfl) rfl rfl hl.1 rfl (lv_room (Nat.le_of_ble_eq_true rfl)) dX4_isWire_10 ⟨Nat.zero_le _, Nat.zero_le _⟩) hS (fun q h => h) (fun v10 H locs hp9 hz9 ho9 hS => ?_)
    have ev10 : v10 = _ := hp9
    have hC := hC.same (fun q => ho9 q (fun h => h))
    refine lv_if_eq (tgt := 20) hx hb dX4_isWire_13 (by decide) (fun c_13 => ?_) (fun c_13 => ?_)
    · refine lv_iconst (v := 0) hx hb dX4_isWire_20 (by decide) ?_
      exact q_zret hx hb hr hlocks rfl hS (by split at ev2 <;> first | (split at ev10 <;> simp_all) | simp_all) dX4_isWire_21
    · refine lv_iconst (v := 1) hx hb dX4_isWire_16 (by decide) ?_
      refine lv_goto (tgt := 21) hx hb dX4_isWire_17 (by decide) ?_
      exact q_zret hx hb hr hlocks rfl hS (by split at ev2 <;> first | (split at ev10 <;> simp_all) | simp_all) dX4_isWire_21
set_option maxHeartbeats 4000000 in
set_option maxRecDepth 100000 in
/-- X4_send -/
theorem c_X4_send (l : Launch) (dd : va_G) (ga : Nat → ClassId) (n k : Nat) (ad : Nat → Nat → Nat) (σ : qSt) (hsq : qSq n k) (hL : qL n ad) (f t : Nat) (hf : f < n) (ht : t < n) (x y : Int32) (hroom : (σ.2.2.2.1 f t).length < 8) : Met l yX4_send wsX4_send ({ frames := 2, cells := 0, slots := 0, locals := 49 }) (qPc dd ga [.ref (ad 0 0), .int (nI f), .int (nI t), .int x, .int y] (fun H => qC dd ga n k ad σ H)) (qQv (fun H => qC dd ga n k ad (s_send σ f t x y) H) (qA n ad)) 0 0 (qA n ad) := by
  refine Met.ofW (cc := cX4_send) (maxL := 5) (ret := none) (by decide) rfl ?_
  intro p e s m args below meth c s₁ B hml hv
  obtain ⟨rfl, hC, hK⟩ := hv
  have hx := B.exec
  have hb := B.bytes
  have hr := B.returns
  have hts := atoms_spec (ws := wsX4_send) B.pre
  have hown : s.vm.findClass RX4 = some m.cls := findClass_of_methodNamed B.named
  have hlocks := B.notSynchronized
  have hS : qS (qA n ad) s.heap s.heap [] := qS.rf
  have hl := lv_entry ([.ref (ad 0 0), .int (nI f), .int (nI t), .int x, .int y]) (n := 5) (Nat.le_of_ble_eq_true rfl)
  rw [lg_entry_eq]
  generalize (lg_sl ([.ref (ad 0 0), .int (nI f), .int (nI t), .int x, .int y]) ++ List.replicate (5 - (lg_sl ([.ref (ad 0 0), .int (nI f), .int (nI t), .int x, .int y])).length) Slot.unset).toArray = ls at hl ⊢
  have hin3 : ∀ w ∈ wsX30, w ∈ wsX4_send := by decide +kernel
  have hin4 : ∀ w ∈ wsX40, w ∈ wsX4_send := by decide +kernel
  have hn1 := hsq.n.1
  have hn16 := hsq.n.2
  refine lv_aload_n hx hb dX4_send_0 rfl (lv_at hl 0 rfl) ?_
  refine qr_get (ci := 4) (C := RX4) (T := TX4) (N := 7) hx hb hts hin4 hown hK hC.self rfl 5 (by decide) (hts (.fieldLink RX4 46 "QuorumLock" "wires" "LQuorumLock$Wires;") (by decide +kernel)) rfl dX4_send_1 ?_
  refine lv_iload_n hx hb dX4_send_4 rfl (lv_at hl 1 rfl) ?_
  refine lv_iload_n hx hb dX4_send_5 rfl (lv_at hl 2 rfl) ?_
  refine lv_iload_n hx hb dX4_send_6 rfl (lv_at hl 3 rfl) ?_
  refine lv_iload hx hb dX4_send_7 (lv_at hl 4 rfl) ?_
  refine lv_aload_n hx hb dX4_send_9 rfl (lv_at hl 0 rfl) ?_
  refine qr_get (ci := 4) (C := RX4) (T := TX4) (N := 7) hx hb hts hin4 hown hK hC.self rfl 2 (by decide) (hts (.fieldLink RX4 26 "QuorumLock" "clocks" "[I") (by decide +kernel)) rfl dX4_send_10 ?_
  refine lv_iload_n hx hb dX4_send_13 rfl (lv_at hl 1 rfl) ?_
  refine qr_iald (v := (σ.1 0 f)) hx hb hK hC.clk f (by omega) (by omega) rfl rfl dX4_send_14 ?_
  refine qc_v (va_runV (As := [.int (nI f), .int (nI t), .int x, .int y, .int (σ.1 0 f)]) (rest := []) ⟨hx, hb, hml, hown, hts⟩ (c_X3_add l dd ga n (ad 5 0) (ad 6 0) (ad 7 0) (ad 8 0) (ad 9 0) (hL.ne (qd.z (by decide)) (qd.z (by decide)) (by decide)) (hL.ne (qd.z (by decide)) (qd.z (by decide)) (by decide)) (hL.ne (qd.z (by decide)) (qd.z (by decide)) (by decide)) (hL.ne (qd.z (by decide)) (qd.z (by decide)) (by decide)) (hL.ne (qd.z (by decide)) (qd.z (by decide)) (by decide)) (hL.ne (qd.z (by decide)) (qd.z (by decide)) (by decide)) (hL.ne (qd.z (by decide)) (qd.z (by decide)) (by decide)) (hL.ne (qd.z (by decide)) (qd.z (by decide)) (by decide)) (hL.ne (qd.z (by decide)) (qd.z (by decide)) (by decide)) (hL.ne (qd.z (by decide)) (qd.z (by decide)) (by decide)) σ.2.2.2.1 f t hn16 hf ht x y (σ.1 0 f) hroom) (cwV 5 hts gX4_send_X3_add rfl rfl rfl (by decide +kernel) ⟨Nat.le_of_ble_eq_true rfl, Nat.le_of_ble_eq_true rfl⟩) (qpreV hK hC.wir hC.wir.obj rfl) rfl rfl hl.1 rfl (lv_room (Nat.le_of_ble_eq_true rfl)) dX4_send_15 ⟨Nat.zero_le _, Nat.zero_le _⟩) hS (fun q h => qA.wir h) (fun H locs hp9 hz9 ho9 hS => ?_)
  have hC := hC.putWir (σ' := s_send σ f t x y) hL ho9 hp9 rfl rfl rfl rfl
  exact q_vret hx hb hr hlocks hS hC dX4_send_18
set_option maxHeartbeats 4000000 in
set_option maxRecDepth 100000 in
/-- X4_sendToQuorum -/
theorem c_X4_sendToQuorum (l : Launch) (dd : va_G) (ga : Nat → ClassId) (n k : Nat) (ad : Nat → Nat → Nat) (σ : qSt) (hsq : qSq n k) (hL : qL n ad) (i : Nat) (hi : i < n) (x y : Int32) (hroom : ∀ t : Nat, t < n → (σ.2.2.2.1 i t).length ≤ 6) : Met l yX4_sendToQuorum wsX4_sendToQuorum ({ frames := 3, cells := 0, slots := 0, locals := 73 }) (qPc dd ga [.ref (ad 0 0), .int (nI i), .int x, .int y] (fun H => qC dd ga n k ad σ H)) (qQv (fun H => qC dd ga n k ad (q_all i (q_quo k i n) x y n 0 σ) H) (qA n ad)) 0 0 (qA n ad) := by
  refine Met.ofW (cc := cX4_sendToQuorum) (maxL := 5) (ret := none) (by decide) rfl ?_
  intro p e s m args below meth c s₁ B hml hv
  obtain ⟨rfl, hC, hK⟩ := hv
  have hx := B.exec
  have hb := B.bytes
  have hr := B.returns
  have hts := atoms_spec (ws := wsX4_sendToQuorum) B.pre
  have hown : s.vm.findClass RX4 = some m.cls := findClass_of_methodNamed B.named
  have hlocks := B.notSynchronized
  have hS : qS (qA n ad) s.heap s.heap [] := qS.rf
  have hl := lv_entry ([.ref (ad 0 0), .int (nI i), .int x, .int y]) (n := 5) (Nat.le_of_ble_eq_true rfl)
  rw [lg_entry_eq]
  generalize (lg_sl ([.ref (ad 0 0), .int (nI i), .int x, .int y]) ++ List.replicate (5 - (lg_sl ([.ref (ad 0 0), .int (nI i), .int x, .int y])).length) Slot.unset).toArray = ls at hl ⊢
  have hin4 : ∀ w ∈ wsX40, w ∈ wsX4_sendToQuorum := by decide +kernel
  have hn1 := hsq.n.1
  have hn16 := hsq.n.2
  have hloop : ∀ (c9 j9 : Nat) (τ : qSt) (ls : Array Slot) (H : Heap) (locs : List Loc), j9 + c9 = n → q_all i (q_quo k i n) x y n 0 σ = q_all i (q_quo k i n) x y c9 j9 τ → (∀ t : Nat, j9 ≤ t → t < n → (τ.2.2.2.1 i t).length ≤ 6) → qC dd ga n k ad τ H → qS (qA n ad) s.heap H locs → lv_has ls 5 [(4, .int (nI j9)), (0, .ref (ad 0 0)), (1, .int (nI i)), (2, .int x), (3, .int y)] → W p l e (headSpec wsX4_sendToQuorum ({ frames := 3, cells := 0, slots := 0, locals := 73 })).room s m (([.ref (ad 0 0), .int (nI i), .int x, .int y] : List Value).toArray) below meth c H locs 0 0 (MQ below (qQv (fun H => qC dd ga n k ad (q_all i (q_quo k i n) x y n 0 σ) H) (qA n ad)) (([.ref (ad 0 0), .int (nI i), .int x, .int y] : List Value).toArray) s 0 0 (qA n ad)) (F0 m 3 ls []) := by
    intro c9
    induction c9 with
    | zero =>
      intro j9 τ ls H locs hc he hw hC hS hl
      refine lv_iload hx hb dX4_sendToQuorum_3 (lv_at hl 0 rfl) ?_
      refine lv_aload_n hx hb dX4_sendToQuorum_5 rfl (lv_at hl 1 rfl) ?_
      refine qr_get (ci := 4) (C := RX4) (T := TX4) (N := 7) hx hb hts hin4 hown hK hC.self rfl 0 (by decide) (hts (.fieldLink RX4 18 "QuorumLock" "nodes" "I") (by decide +kernel)) rfl dX4_sendToQuorum_6 ?_
      refine lv_icmp_ge (tgt := 41) hx hb dX4_sendToQuorum_9 (by decide) (fun c_9 => ?_) (fun c_9 => absurd (nI_le (show n ≤ j9 by omega) (by omega)) c_9)
      exact q_vret hx hb hr hlocks hS (by rw [he]; exact hC) dX4_sendToQuorum_41
    | succ c9 ih =>
      intro j9 τ ls H locs hc he hw hC hS hl
      refine lv_iload hx hb dX4_sendToQuorum_3 (lv_at hl 0 rfl) ?_
      refine lv_aload_n hx hb dX4_sendToQuorum_5 rfl (lv_at hl 1 rfl) ?_
      refine qr_get (ci := 4) (C := RX4) (T := TX4) (N := 7) hx hb hts hin4 hown hK hC.self rfl 0 (by decide) (hts (.fieldLink RX4 18 "QuorumLock" "nodes" "I") (by decide +kernel)) rfl dX4_sendToQuorum_6 ?_
      refine lv_icmp_ge (tgt := 41) hx hb dX4_sendToQuorum_9 (by decide) (fun c_9 => absurd c_9 (nI_ge (by omega) (by omega))) (fun c_9 => ?_)
      refine lv_aload_n hx hb dX4_sendToQuorum_12 rfl (lv_at hl 1 rfl) ?_
      refine qr_get (ci := 4) (C := RX4) (T := TX4) (N := 7) hx hb hts hin4 hown hK hC.self rfl 1 (by decide) (hts (.fieldLink RX4 22 "QuorumLock" "quorums" "[I") (by decide +kernel)) rfl dX4_sendToQuorum_13 ?_
      refine lv_iload_n hx hb dX4_sendToQuorum_16 rfl (lv_at hl 2 rfl) ?_
      refine qr_iald (v := (q_quo k i n)) hx hb hK hC.quo i (by omega) (by omega) rfl rfl dX4_sendToQuorum_17 ?_
      refine lv_iload hx hb dX4_sendToQuorum_18 (lv_at hl 0 rfl) ?_
      refine qc_i (va_runS (As := [.int (q_quo k i n), .int (nI j9)]) (rest := []) ⟨hx, hb, hml, hown, hts⟩ (c_X4_has l dd ga (q_quo k i n) j9) (va_cwS 2 hts gX4_sendToQuorum_X4_has rfl rfl rfl (by decide +kernel) ⟨Nat.le_of_ble_eq_true rfl, Nat.le_of_ble_eq_true rfl⟩) (qpreS hK trivial) rfl rfl hl.1 rfl (lv_room (Nat.le_of_ble_eq_true rfl)) dX4_sendToQuorum_20 ⟨Nat.zero_le _, Nat.zero_le _⟩) hS (fun q h => h.elim) (fun v20 H locs hp9 hz9 ho9 hS => ?_)
      have e20 : v20 = _ := hp9
      have hC := hC.same (fun q => ho9 q (fun h => h))
      refine lv_if_eq (tgt := 35) hx hb dX4_sendToQuorum_23 (by decide) (fun c_23 => ?_) (fun c_23 => ?_)
      · have h20 : ¬ q_has (q_quo k i n) j9 = true := fun h => by rw [if_pos h] at e20; rw [e20] at c_23; exact absurd c_23 (by decide)
        refine lv_iinc (v := nI (j9 + 1)) (lv' := [(4, .int (nI (j9 + 1))), (0, .ref (ad 0 0)), (1, .int (nI i)), (2, .int x), (3, .int y)]) hx hb dX4_sendToQuorum_35 hl (k := 0) rfl (nI_1 _) (by decide) rfl (fun ls hl => ?_)
        refine lv_goto (tgt := 3) hx hb dX4_sendToQuorum_38 (by decide) ?_
        refine ih (j9 + 1) (τ) ls _ _ (by omega) (by rw [he, q_all, if_neg h20]) (fun t h1 h2 => ?_) hC hS (lv_sub hl [0, 1, 2, 3, 4] rfl)
        exact hw t (by omega) h2
      · have h20 : q_has (q_quo k i n) j9 = true := Classical.byContradiction fun h => by rw [if_neg h] at e20; exact c_23 e20
        refine lv_aload_n hx hb dX4_sendToQuorum_26 rfl (lv_at hl 1 rfl) ?_
        refine lv_iload_n hx hb dX4_sendToQuorum_27 rfl (lv_at hl 2 rfl) ?_
        refine lv_iload hx hb dX4_sendToQuorum_28 (lv_at hl 0 rfl) ?_
        refine lv_iload_n hx hb dX4_sendToQuorum_30 rfl (lv_at hl 3 rfl) ?_
        refine lv_iload_n hx hb dX4_sendToQuorum_31 rfl (lv_at hl 4 rfl) ?_
        refine qc_v (va_runV (As := [.int (nI i), .int (nI j9), .int x, .int y]) (rest := []) ⟨hx, hb, hml, hown, hts⟩ (c_X4_send l dd ga n k ad τ hsq hL i j9 hi (by omega) x y (by have := hw j9 (Nat.le_refl _) (by omega); omega)) (cwV 4 hts gX4_sendToQuorum_X4_send rfl rfl rfl (by decide +kernel) ⟨Nat.le_of_ble_eq_true rfl, Nat.le_of_ble_eq_true rfl⟩) (qpreV hK hC hC.self rfl) rfl rfl hl.1 rfl (lv_room (Nat.le_of_ble_eq_true rfl)) dX4_sendToQuorum_32 ⟨Nat.zero_le _, Nat.zero_le _⟩) hS (fun q h => h) (fun H locs hp9 hz9 ho9 hS => ?_)
        have hC := hp9
        refine lv_iinc (v := nI (j9 + 1)) (lv' := [(4, .int (nI (j9 + 1))), (0, .ref (ad 0 0)), (1, .int (nI i)), (2, .int x), (3, .int y)]) hx hb dX4_sendToQuorum_35 hl (k := 0) rfl (nI_1 _) (by decide) rfl (fun ls hl => ?_)
        refine lv_goto (tgt := 3) hx hb dX4_sendToQuorum_38 (by decide) ?_
        refine ih (j9 + 1) (s_send τ i j9 x y) ls _ _ (by omega) (by rw [he, q_all, if_pos h20]) (fun t h1 h2 => ?_) hC hS (lv_sub hl [0, 1, 2, 3, 4] rfl)
        rw [show (s_send τ i j9 x y).2.2.2.1 i t = τ.2.2.2.1 i t from q2_n (by omega)]; exact hw t (by omega) h2
  refine lv_iconst (v := nI 0) hx hb dX4_sendToQuorum_0 (by decide) ?_
  refine lv_istore (lv' := [(4, .int (nI 0)), (0, .ref (ad 0 0)), (1, .int (nI i)), (2, .int x), (3, .int y)]) hx hb dX4_sendToQuorum_1 hl (by decide) rfl (fun ls hl => ?_)
  exact hloop n 0 σ ls _ _ (by omega) rfl (fun t _ h => hroom t h) hC hS (lv_sub hl [0, 1, 2, 3, 4] rfl)
set_option maxHeartbeats 4000000 in
set_option maxRecDepth 100000 in
/-- X4_lend -/
theorem c_X4_lend (l : Launch) (dd : va_G) (ga : Nat → ClassId) (n k : Nat) (ad : Nat → Nat → Nat) (σ : qSt) (hsq : qSq n k) (hL : qL n ad) (i a : Nat) (hi : i < n) (ha : a < n) (t : Int32) (hroom : (σ.2.2.2.1 i a).length < 8) : Met l yX4_lend wsX4_lend ({ frames := 3, cells := 0, slots := 0, locals := 73 }) (qPc dd ga [.ref (ad 0 0), .int (nI i), .int (nI a), .int t] (fun H => qC dd ga n k ad σ H)) (qQv (fun H => qC dd ga n k ad (q_lend σ i a t) H) (qA n ad)) 0 0 (qA n ad) := by
  refine Met.ofW (cc := cX4_lend) (maxL := 4) (ret := none) (by decide) rfl ?_
  intro p e s m args below meth c s₁ B hml hv
  obtain ⟨rfl, hC, hK⟩ := hv
  have hx := B.exec
  have hb := B.bytes
  have hr := B.returns
  have hts := atoms_spec (ws := wsX4_lend) B.pre
  have hown : s.vm.findClass RX4 = some m.cls := findClass_of_methodNamed B.named
  have hlocks := B.notSynchronized
  have hS : qS (qA n ad) s.heap s.heap [] := qS.rf
  have hl := lv_entry ([.ref (ad 0 0), .int (nI i), .int (nI a), .int t]) (n := 4) (Nat.le_of_ble_eq_true rfl)
  rw [lg_entry_eq]
  generalize (lg_sl ([.ref (ad 0 0), .int (nI i), .int (nI a), .int t]) ++ List.replicate (4 - (lg_sl ([.ref (ad 0 0), .int (nI i), .int (nI a), .int t])).length) Slot.unset).toArray = ls at hl ⊢
  have hin4 : ∀ w ∈ wsX40, w ∈ wsX4_lend := by decide +kernel
  have hn1 := hsq.n.1
  have hn16 := hsq.n.2
  refine lv_aload_n hx hb dX4_lend_0 rfl (lv_at hl 0 rfl) ?_
  refine qr_get (ci := 4) (C := RX4) (T := TX4) (N := 7) hx hb hts hin4 hown hK hC.self rfl 4 (by decide) (hts (.fieldLink RX4 37 "QuorumLock" "voters" "[LQuorumLock$Voter;") (by decide +kernel)) rfl dX4_lend_1 ?_
  refine lv_iload_n hx hb dX4_lend_4 rfl (lv_at hl 1 rfl) ?_
  refine qr_aald (v := ad 11 i) hx hb hK 3 hC.arV rfl i (by omega) (by omega) rfl rfl dX4_lend_5 ?_
  refine lv_iload_n hx hb dX4_lend_6 rfl (lv_at hl 2 rfl) ?_
  refine lv_iload_n hx hb dX4_lend_7 rfl (lv_at hl 3 rfl) ?_
  refine qc_v (va_runV (As := [.int (nI a), .int t]) (rest := []) ⟨hx, hb, hml, hown, hts⟩ (c_X2_lendTo l dd ga (ad 11 i) (ad 12 i) (q_on (σ.2.1 i)) (q_ot (σ.2.1 i)) (σ.1 6 i) (nI a) t) (cwV 2 hts gX4_lend_X2_lendTo rfl rfl rfl (by decide +kernel) ⟨Nat.le_of_ble_eq_true rfl, Nat.le_of_ble_eq_true rfl⟩) (qpreV hK (hC.vot i hi) (hC.vot i hi) rfl) rfl rfl hl.1 rfl (lv_room (Nat.le_of_ble_eq_true rfl)) dX4_lend_8 ⟨Nat.zero_le _, Nat.zero_le _⟩) hS (fun q h => qA.at (by decide) (by decide) hi h) (fun H locs hp9 hz9 ho9 hS => ?_)
  have hC := hC.putVot (σ' := s_tb (s_ln σ i (some (a, t))) 6 i 0) hL hi ho9 (by simpa [qVot, s_tb, s_ln, q2, va_up, q_on, q_ot] using hp9) (fun f j h => q2_n h) (fun j h => va_up_ne _ _ h) rfl
  refine lv_aload_n hx hb dX4_lend_11 rfl (lv_at hl 0 rfl) ?_
  refine lv_iload_n hx hb dX4_lend_12 rfl (lv_at hl 1 rfl) ?_
  refine lv_iload_n hx hb dX4_lend_13 rfl (lv_at hl 2 rfl) ?_
  refine lv_iconst (v := 2) hx hb dX4_lend_14 (by decide) ?_
  refine lv_iload_n hx hb dX4_lend_15 rfl (lv_at hl 3 rfl) ?_
  refine qc_v (va_runV (As := [.int (nI i), .int (nI a), .int 2, .int t]) (rest := []) ⟨hx, hb, hml, hown, hts⟩ (c_X4_send l dd ga n k ad (s_tb (s_ln σ i (some (a, t))) 6 i 0) hsq hL i a hi ha 2 t hroom) (cwV 4 hts gX4_lend_X4_send rfl rfl rfl (by decide +kernel) ⟨Nat.le_of_ble_eq_true rfl, Nat.le_of_ble_eq_true rfl⟩) (qpreV hK hC hC.self rfl) rfl rfl hl.1 rfl (lv_room (Nat.le_of_ble_eq_true rfl)) dX4_lend_16 ⟨Nat.zero_le _, Nat.zero_le _⟩) hS (fun q h => h) (fun H locs hp9 hz9 ho9 hS => ?_)
  have hC := hp9
  exact q_vret hx hb hr hlocks hS hC dX4_lend_19
set_option maxHeartbeats 4000000 in
set_option maxRecDepth 100000 in
/-- X4_inquireOnce -/
theorem c_X4_inquireOnce (l : Launch) (dd : va_G) (ga : Nat → ClassId) (n k : Nat) (ad : Nat → Nat → Nat) (σ : qSt) (hsq : qSq n k) (hL : qL n ad) (i b : Nat) (u : Int32) (hi : i < n) (hb9 : b < n) (eln : σ.2.1 i = some (b, u)) (hroom : (σ.2.2.2.1 i b).length < 8) : Met l yX4_inquireOnce wsX4_inquireOnce ({ frames := 3, cells := 0, slots := 0, locals := 73 }) (qPc dd ga [.ref (ad 0 0), .int (nI i)] (fun H => qC dd ga n k ad σ H)) (qQv (fun H => qC dd ga n k ad (if σ.1 6 i = 0 then s_tb (s_send σ i b 4 u) 6 i 1 else σ) H) (qA n ad)) 0 0 (qA n ad) := by
  refine Met.ofW (cc := cX4_inquireOnce) (maxL := 3) (ret := none) (by decide) rfl ?_
  intro p e s m args below meth c s₁ B hml hv
  obtain ⟨rfl, hC, hK⟩ := hv
  have hx := B.exec
  have hb := B.bytes
  have hr := B.returns
  have hts := atoms_spec (ws := wsX4_inquireOnce) B.pre
  have hown : s.vm.findClass RX4 = some m.cls := findClass_of_methodNamed B.named
  have hlocks := B.notSynchronized
  have hS : qS (qA n ad) s.heap s.heap [] := qS.rf
  have hl := lv_entry ([.ref (ad 0 0), .int (nI i)]) (n := 3) (Nat.le_of_ble_eq_true rfl)
  rw [lg_entry_eq]
  generalize (lg_sl ([.ref (ad 0 0), .int (nI i)]) ++ List.replicate (3 - (lg_sl ([.ref (ad 0 0), .int (nI i)])).length) Slot.unset).toArray = ls at hl ⊢
  have hin2 : ∀ w ∈ wsX20, w ∈ wsX4_inquireOnce := by decide +kernel
  have hin4 : ∀ w ∈ wsX40, w ∈ wsX4_inquireOnce := by decide +kernel
  have hn1 := hsq.n.1
  have hn16 := hsq.n.2
  have eon : q_on (σ.2.1 i) = nI b := by rw [eln]; rfl
  have eot : q_ot (σ.2.1 i) = u := by rw [eln]; rfl
  refine lv_aload_n hx hb dX4_inquireOnce_0 rfl (lv_at hl 0 rfl) ?_
  refine qr_get (ci := 4) (C := RX4) (T := TX4) (N := 7) hx hb hts hin4 hown hK hC.self rfl 4 (by decide) (hts (.fieldLink RX4 37 "QuorumLock" "voters" "[LQuorumLock$Voter;") (by decide +kernel)) rfl dX4_inquireOnce_1 ?_
  refine lv_iload_n hx hb dX4_inquireOnce_4 rfl (lv_at hl 1 rfl) ?_
  refine qr_aald (v := ad 11 i) hx hb hK 3 hC.arV rfl i (by omega) (by omega) rfl rfl dX4_inquireOnce_5 ?_
  refine lv_astore_n (lv' := [(2, .ref (ad 11 i)), (0, .ref (ad 0 0)), (1, .int (nI i))]) hx hb dX4_inquireOnce_6 rfl hl (by decide) rfl (fun ls hl => ?_)
  refine lv_aload_n hx hb dX4_inquireOnce_7 rfl (lv_at hl 0 rfl) ?_
  refine qr_get (ci := 2) (C := RX2) (T := TX2) (N := 4) hx hb hts hin2 hown hK (hC.vot i hi) rfl 3 (by decide) (hts (.fieldLink RX4 126 "QuorumLock$Voter" "inquired" "Z") (by decide +kernel)) rfl dX4_inquireOnce_8 ?_
  refine lv_if_ne (tgt := 33) hx hb dX4_inquireOnce_11 (by decide) (fun c_11 => ?_) (fun c_11 => ?_)
  · exact q_vret hx hb hr hlocks hS (by first | (rw [if_pos c_11]; exact hC) | (rw [if_neg c_11]; exact hC)) dX4_inquireOnce_33
  · refine lv_aload_n hx hb dX4_inquireOnce_14 rfl (lv_at hl 1 rfl) ?_
    refine lv_iload_n hx hb dX4_inquireOnce_15 rfl (lv_at hl 2 rfl) ?_
    refine lv_aload_n hx hb dX4_inquireOnce_16 rfl (lv_at hl 0 rfl) ?_
    refine qr_get (ci := 2) (C := RX2) (T := TX2) (N := 4) hx hb hts hin2 hown hK (hC.vot i hi) rfl 1 (by decide) (hts (.fieldLink RX4 103 "QuorumLock$Voter" "lentTo" "I") (by decide +kernel)) rfl dX4_inquireOnce_17 ?_
    rw [eon]
    refine lv_iconst (v := 4) hx hb dX4_inquireOnce_20 (by decide) ?_
    refine lv_aload_n hx hb dX4_inquireOnce_21 rfl (lv_at hl 0 rfl) ?_
    refine qr_get (ci := 2) (C := RX2) (T := TX2) (N := 4) hx hb hts hin2 hown hK (hC.vot i hi) rfl 2 (by decide) (hts (.fieldLink RX4 201 "QuorumLock$Voter" "lentTime" "I") (by decide +kernel)) rfl dX4_inquireOnce_22 ?_
    rw [eot]
    refine qc_v (va_runV (As := [.int (nI i), .int (nI b), .int 4, .int u]) (rest := []) ⟨hx, hb, hml, hown, hts⟩ (c_X4_send l dd ga n k ad σ hsq hL i b hi hb9 4 u hroom) (cwV 4 hts gX4_inquireOnce_X4_send rfl rfl rfl (by decide +kernel) ⟨Nat.le_of_ble_eq_true rfl, Nat.le_of_ble_eq_true rfl⟩) (qpreV hK hC hC.self rfl) rfl rfl hl.1 rfl (lv_room (Nat.le_of_ble_eq_true rfl)) dX4_inquireOnce_25 ⟨Nat.zero_le _, Nat.zero_le _⟩) hS (fun q h => h) (fun H locs hp9 hz9 ho9 hS => ?_)
    have hC := hp9
    refine lv_aload_n hx hb dX4_inquireOnce_28 rfl (lv_at hl 0 rfl) ?_
    refine lv_iconst (v := 1) hx hb dX4_inquireOnce_29 (by decide) ?_
    refine qr_put (ci := 2) (C := RX2) (T := TX2) (N := 4) hx hb hts hin2 tyX2 tyX2_ok nmX2 hown hK (hC.vot i hi) hS (⟨11, i, qd.i (by decide) (by decide) hi, rfl⟩) rfl 3 (by decide) (hts (.fieldLink RX4 126 "QuorumLock$Voter" "inquired" "Z") (by decide +kernel)) rfl rfl rfl (Nat.le_of_ble_eq_true rfl) dX4_inquireOnce_30 (fun H locs hz9 ho9 hat9 hS => ?_)
    have hC := hC.putVot (σ' := s_tb (s_send σ i b 4 u) 6 i 1) hL hi ho9 (by simpa [qVot, s_tb, s_send, s_wr, q2] using hat9) (fun f j h => q2_n h) (fun j h => rfl) rfl
    exact q_vret hx hb hr hlocks hS (by first | (rw [if_pos c_11]; exact hC) | (rw [if_neg c_11]; exact hC)) dX4_inquireOnce_33
set_option maxHeartbeats 4000000 in
set_option maxRecDepth 100000 in
/-- X4_giveUp -/
theorem c_X4_giveUp (l : Launch) (dd : va_G) (ga : Nat → ClassId) (n k : Nat) (ad : Nat → Nat → Nat) (σ : qSt) (hsq : qSq n k) (hL : qL n ad) (i j : Nat) (hi : i < n) (hj : j < n) (hroom : (σ.2.2.2.1 i j).length < 8) : Met l yX4_giveUp wsX4_giveUp ({ frames := 3, cells := 0, slots := 0, locals := 73 }) (qPc dd ga [.ref (ad 0 0), .int (nI i), .int (nI j)] (fun H => qC dd ga n k ad σ H)) (qQv (fun H => qC dd ga n k ad (q_giveUp σ i j) H) (qA n ad)) 0 0 (qA n ad) := by
  refine Met.ofW (cc := cX4_giveUp) (maxL := 4) (ret := none) (by decide) rfl ?_
  intro p e s m args below meth c s₁ B hml hv
  obtain ⟨rfl, hC, hK⟩ := hv
  have hx := B.exec
  have hb := B.bytes
  have hr := B.returns
  have hts := atoms_spec (ws := wsX4_giveUp) B.pre
  have hown : s.vm.findClass RX4 = some m.cls := findClass_of_methodNamed B.named
  have hlocks := B.notSynchronized
  have hS : qS (qA n ad) s.heap s.heap [] := qS.rf
  have hl := lv_entry ([.ref (ad 0 0), .int (nI i), .int (nI j)]) (n := 4) (Nat.le_of_ble_eq_true rfl)
  rw [lg_entry_eq]
  generalize (lg_sl ([.ref (ad 0 0), .int (nI i), .int (nI j)]) ++ List.replicate (4 - (lg_sl ([.ref (ad 0 0), .int (nI i), .int (nI j)])).length) Slot.unset).toArray = ls at hl ⊢
  have hin0 : ∀ w ∈ wsX00, w ∈ wsX4_giveUp := by decide +kernel
  have hin4 : ∀ w ∈ wsX40, w ∈ wsX4_giveUp := by decide +kernel
  have hn1 := hsq.n.1
  have hn16 := hsq.n.2
  refine lv_aload_n hx hb dX4_giveUp_0 rfl (lv_at hl 0 rfl) ?_
  refine qr_get (ci := 4) (C := RX4) (T := TX4) (N := 7) hx hb hts hin4 hown hK hC.self rfl 3 (by decide) (hts (.fieldLink RX4 31 "QuorumLock" "askers" "[LQuorumLock$Asker;") (by decide +kernel)) rfl dX4_giveUp_1 ?_
  refine lv_iload_n hx hb dX4_giveUp_4 rfl (lv_at hl 1 rfl) ?_
  refine qr_aald (v := ad 10 i) hx hb hK 2 hC.arA rfl i (by omega) (by omega) rfl rfl dX4_giveUp_5 ?_
  refine lv_astore_n (lv' := [(3, .ref (ad 10 i)), (0, .ref (ad 0 0)), (1, .int (nI i)), (2, .int (nI j))]) hx hb dX4_giveUp_6 rfl hl (by decide) rfl (fun ls hl => ?_)
  refine lv_aload_n hx hb dX4_giveUp_7 rfl (lv_at hl 1 rfl) ?_
  refine lv_iload_n hx hb dX4_giveUp_8 rfl (lv_at hl 2 rfl) ?_
  refine lv_iload_n hx hb dX4_giveUp_9 rfl (lv_at hl 3 rfl) ?_
  refine lv_iconst (v := 5) hx hb dX4_giveUp_10 (by decide) ?_
  refine lv_aload_n hx hb dX4_giveUp_11 rfl (lv_at hl 0 rfl) ?_
  refine qr_get (ci := 0) (C := RX0) (T := TX0) (N := 5) hx hb hts hin0 hown hK (hC.ask i hi) rfl 1 (by decide) (hts (.fieldLink RX4 80 "QuorumLock$Asker" "time" "I") (by decide +kernel)) rfl dX4_giveUp_12 ?_
  refine qc_v (va_runV (As := [.int (nI i), .int (nI j), .int 5, .int (σ.1 2 i)]) (rest := []) ⟨hx, hb, hml, hown, hts⟩ (c_X4_send l dd ga n k ad σ hsq hL i j hi hj 5 (σ.1 2 i) hroom) (cwV 4 hts gX4_giveUp_X4_send rfl rfl rfl (by decide +kernel) ⟨Nat.le_of_ble_eq_true rfl, Nat.le_of_ble_eq_true rfl⟩) (qpreV hK hC hC.self rfl) rfl rfl hl.1 rfl (lv_room (Nat.le_of_ble_eq_true rfl)) dX4_giveUp_15 ⟨Nat.zero_le _, Nat.zero_le _⟩) hS (fun q h => h) (fun H locs hp9 hz9 ho9 hS => ?_)
  have hC := hp9
  refine lv_aload_n hx hb dX4_giveUp_18 rfl (lv_at hl 0 rfl) ?_
  refine lv_iload_n hx hb dX4_giveUp_19 rfl (lv_at hl 3 rfl) ?_
  refine qc_v (va_runV (As := [.int (nI j)]) (rest := []) ⟨hx, hb, hml, hown, hts⟩ (c_X0_loseVote l dd ga (ad 10 i) (σ.1 1 i) (σ.1 2 i) (σ.1 3 i) (σ.1 4 i) (σ.1 5 i) (nI j)) (cwV 1 hts gX4_giveUp_X0_loseVote rfl rfl rfl (by decide +kernel) ⟨Nat.le_of_ble_eq_true rfl, Nat.le_of_ble_eq_true rfl⟩) (qpreV hK (hC.ask i hi) (hC.ask i hi) rfl) rfl rfl hl.1 rfl (lv_room (Nat.le_of_ble_eq_true rfl)) dX4_giveUp_20 ⟨Nat.zero_le _, Nat.zero_le _⟩) hS (fun q h => qA.at (by decide) (by decide) hi h) (fun H locs hp9 hz9 ho9 hS => ?_)
  have hC := hC.putAsk (σ' := q_giveUp σ i j) hL hi ho9 (by simpa [q_giveUp, s_tb, s_send, s_wr, q2, q_bit, q_nbit] using hp9) (fun f j h => by simp only [q_giveUp, s_tb, s_send, s_wr, q2]; repeat rw [if_neg (by omega)]) rfl
  exact q_vret hx hb hr hlocks hS hC dX4_giveUp_23
