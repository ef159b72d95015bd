set_option maxHeartbeats 4000000 in
set_option maxRecDepth 100000 in
/-- X0_init -/
theorem c_X0_init (l : Launch) (dd : va_G) (ga : Nat → ClassId) (h0 : Nat) : Met l yX0_init wsX0_init ({ frames := 1, cells := 0, slots := 0, locals := 21 }) (qPc dd ga [.ref h0] (fun H => va_at dd vwCl (h0, .inr (0, [.int 0, .int 0, .int 0, .int 0, .int 0])) H)) (qQv (fun H => va_at dd vwCl (h0, .inr (0, [.int 0, .int 0, .int 0, .int 0, .int 0])) H) (fun _ => False)) (0) (0) (fun _ => False) := by
  refine Met.ofW (cc := cX0_init) (maxL := 1) (ret := none) (by decide) rfl ?_
  intro p e s m args below meth c s₁ B hml hv
  obtain ⟨rfl, hP, hK⟩ := hv
  have hx := B.exec
  have hb := B.bytes
  have hr := B.returns
  have hts := atoms_spec (ws := wsX0_init) B.pre
  have hown : s.vm.findClass RX0 = some m.cls := findClass_of_methodNamed B.named
  have hlocks := B.notSynchronized
  have hin9 : meth.name = "<init>" := (name_of_methodNamed B.named B.method).1
  have hS : qS (fun _ => False) s.heap s.heap [] := qS.rf
  have hl := lv_entry ([.ref h0]) (n := 1) (Nat.le_of_ble_eq_true rfl)
  rw [lg_entry_eq]
  generalize (lg_sl ([.ref h0]) ++ List.replicate (1 - (lg_sl ([.ref h0])).length) Slot.unset).toArray = ls at hl ⊢
  refine lv_aload_n hx hb dX0_init_0 rfl (lv_at hl 0 rfl) ?_
  refine W.objInit hx hb hown (hts (.methodLink RX0 3 objectInit) (by decide +kernel)) (hts (.instanceMethod objectInit) (by decide +kernel)) (hts (.code objectInit ⟨#[0xb1]⟩ 1 none) (by decide +kernel)) rfl (by rw [hml]; exact hl.1) rfl dX0_init_1 (Nat.le_of_ble_eq_true rfl) (Nat.le_of_ble_eq_true rfl) ?_
  refine W.eq (g2 := F0 m 4 ls []) rfl ?_
  exact q_vret hx hb hr hlocks hS hP dX0_init_4
set_option maxHeartbeats 4000000 in
set_option maxRecDepth 100000 in
/-- X1_init -/
theorem c_X1_init (l : Launch) (dd : va_G) (ga : Nat → ClassId) (h0 sz q : Nat) (hq7 : q ≤ 7) : Met l yX1_init wsX1_init ({ frames := 1, cells := 2, slots := 2 * q, locals := 21 }) (qPc dd ga [.ref h0, .int (nI q)] (fun H => H.size = sz ∧ va_at dd vwCl (h0, .inr (1, [.null, .null, .int 0])) H)) (qQa (fun H => ∃ h1 h2 : Nat, (sz ≤ h1 ∧ h1 < H.size) ∧ (sz ≤ h2 ∧ h2 < H.size) ∧ h1 ≠ h2 ∧ qRow dd ga q h0 h1 h2 [] H) (fun q => q = h0 ∨ sz ≤ q)) (2) (2 * q) (fun q => q = h0 ∨ sz ≤ q) := by
  refine Met.ofW (cc := cX1_init) (maxL := 2) (ret := none) (by decide) rfl ?_
  intro p e s m args below meth c s₁ B hml hv
  obtain ⟨rfl, ⟨hsz, hP⟩, hK⟩ := hv
  have hx := B.exec
  have hb := B.bytes
  have hr := B.returns
  have hts := atoms_spec (ws := wsX1_init) B.pre
  have hown : s.vm.findClass RX1 = some m.cls := findClass_of_methodNamed B.named
  have hlocks := B.notSynchronized
  have hin9 : meth.name = "<init>" := (name_of_methodNamed B.named B.method).1
  have hS : va_S (fun q => q = h0 ∨ sz ≤ q) s.heap s.heap [] := va_S.rf
  have hl := lv_entry ([.ref h0, .int (nI q)]) (n := 2) (Nat.le_of_ble_eq_true rfl)
  rw [lg_entry_eq]
  generalize (lg_sl ([.ref h0, .int (nI q)]) ++ List.replicate (2 - (lg_sl ([.ref h0, .int (nI q)])).length) Slot.unset).toArray = ls at hl ⊢
  have hin1 : ∀ w ∈ wsX10, w ∈ wsX1_init := by decide +kernel
  refine lv_aload_n hx hb dX1_init_0 rfl (lv_at hl 0 rfl) ?_
  refine W.objInit hx hb hown (hts (.methodLink RX1 3 objectInit) (by decide +kernel)) (hts (.instanceMethod objectInit) (by decide +kernel)) (hts (.code objectInit ⟨#[0xb1]⟩ 1 none) (by decide +kernel)) rfl (by rw [hml]; exact hl.1) rfl dX1_init_1 (Nat.le_of_ble_eq_true rfl) (Nat.le_of_ble_eq_true rfl) ?_
  refine W.eq (g2 := F0 m 4 ls []) rfl ?_
  refine lv_aload_n hx hb dX1_init_4 rfl (lv_at hl 0 rfl) ?_
  refine lv_iload_n hx hb dX1_init_5 rfl (lv_at hl 1 rfl) ?_
  refine qn_newi hx hb (hts (.arrayClass .int) (by decide +kernel)) hK hS (q) (by omega) rfl (by show _ ≤ 2; omega) (by show _ ≤ 2 * q; omega) dX1_init_6 (fun q1 H hq9 hz9 ho9 hat9 hS => ?_)
  have n_h0_q1 : h0 ≠ q1 := by rw [hq9]; exact Nat.ne_of_lt (qa_lt hP)
  have hP := qa_keptL hP ho9
  have h_q1 := hat9
  have l_q1 : sz ≤ q1 := by rw [hq9]; exact Nat.le_trans (Nat.le_of_eq hsz.symm) (Nat.le_of_lt_succ (Nat.lt_succ_of_le (by have := hS.1; omega)))
  refine qn_putF (ci := 1) (C := RX1) (T := TX1) (N := 3) hx hb hts hin1 tyX1 tyX1_ok nmX1 hown hK hP hS (Or.inl rfl) rfl 0 (by decide) (hts (.fieldLink RX1 9 "QuorumLock$Row" "waitingNodes" "[I") (by decide +kernel)) rfl hin9 rfl rfl rfl (Nat.le_of_ble_eq_true rfl) dX1_init_8 (fun H locs hz9 ho9 hat9 hS => ?_)
  have hP : va_at dd vwCl (h0, .inr (1, [.ref q1, .null, .int 0])) H := hat9
  have h_q1 := qa_kept h_q1 (ho9 _ n_h0_q1.symm)
  refine lv_aload_n hx hb dX1_init_11 rfl (lv_at hl 0 rfl) ?_
  refine lv_iload_n hx hb dX1_init_12 rfl (lv_at hl 1 rfl) ?_
  refine qn_newi hx hb (hts (.arrayClass .int) (by decide +kernel)) hK hS (q) (by omega) rfl (by show _ ≤ 2; omega) (by show _ ≤ 2 * q; omega) dX1_init_13 (fun q2 H hq9 hz9 ho9 hat9 hS => ?_)
  have n_h0_q2 : h0 ≠ q2 := by rw [hq9]; exact Nat.ne_of_lt (qa_lt hP)
  have n_q1_q2 : q1 ≠ q2 := by rw [hq9]; exact Nat.ne_of_lt (qa_lt h_q1)
  have hP := qa_keptL hP ho9
  have h_q1 := qa_keptL h_q1 ho9
  have h_q2 := hat9
  have l_q2 : sz ≤ q2 := by rw [hq9]; exact Nat.le_trans (Nat.le_of_eq hsz.symm) (Nat.le_of_lt_succ (Nat.lt_succ_of_le (by have := hS.1; omega)))
  refine qn_putF (ci := 1) (C := RX1) (T := TX1) (N := 3) hx hb hts hin1 tyX1 tyX1_ok nmX1 hown hK hP hS (Or.inl rfl) rfl 1 (by decide) (hts (.fieldLink RX1 15 "QuorumLock$Row" "waitingTimes" "[I") (by decide +kernel)) rfl hin9 rfl rfl rfl (Nat.le_of_ble_eq_true rfl) dX1_init_15 (fun H locs hz9 ho9 hat9 hS => ?_)
  have hP : va_at dd vwCl (h0, .inr (1, [.ref q1, .ref q2, .int 0])) H := hat9
  have h_q1 := qa_kept h_q1 (ho9 _ n_h0_q1.symm)
  have h_q2 := qa_kept h_q2 (ho9 _ n_h0_q2.symm)
  refine W.widen (k := 2) (n := 2 * q) (by omega) (by omega) ?_
  exact q_aret hx hb hr hlocks hS (⟨q1, q2, ⟨l_q1, qa_lt h_q1⟩, ⟨l_q2, qa_lt h_q2⟩, n_q1_q2, fun _ => 0, fun _ => 0, hP, h_q1, h_q2, fun j x hj => by simp at hj⟩) dX1_init_18
set_option maxHeartbeats 4000000 in
set_option maxRecDepth 100000 in
/-- X2_init -/
theorem c_X2_init (l : Launch) (dd : va_G) (ga : Nat → ClassId) (h0 sz q : Nat) (hq7 : q ≤ 7) : Met l yX2_init wsX2_init ({ frames := 2, cells := 3, slots := 3 + 2 * q, locals := 42 }) (qPc dd ga [.ref h0, .int (nI q)] (fun H => H.size = sz ∧ va_at dd vwCl (h0, .inr (2, [.null, .int 0, .int 0, .int 0])) H)) (qQa (fun H => ∃ r0 r1 r2 : Nat, (sz ≤ r0 ∧ r0 < H.size) ∧ (sz ≤ r1 ∧ r1 < H.size) ∧ (sz ≤ r2 ∧ r2 < H.size) ∧ r0 ≠ r1 ∧ r0 ≠ r2 ∧ r1 ≠ r2 ∧ va_at dd vwCl (h0, .inr (2, [.ref r0, .int 0, .int 0, .int 0])) H ∧ qRow dd ga q r0 r1 r2 [] H) (fun q => q = h0 ∨ sz ≤ q)) (3) (3 + 2 * q) (fun q => q = h0 ∨ sz ≤ q) := by
  refine Met.ofW (cc := cX2_init) (maxL := 2) (ret := none) (by decide) rfl ?_
  intro p e s m args below meth c s₁ B hml hv
  obtain ⟨rfl, ⟨hsz, hP⟩, hK⟩ := hv
  have hx := B.exec
  have hb := B.bytes
  have hr := B.returns
  have hts := atoms_spec (ws := wsX2_init) B.pre
  have hown : s.vm.findClass RX2 = some m.cls := findClass_of_methodNamed B.named
  have hlocks := B.notSynchronized
  have hin9 : meth.name = "<init>" := (name_of_methodNamed B.named B.method).1
  have hS : va_S (fun q => q = h0 ∨ sz ≤ q) s.heap s.heap [] := va_S.rf
  have hl := lv_entry ([.ref h0, .int (nI q)]) (n := 2) (Nat.le_of_ble_eq_true rfl)
  rw [lg_entry_eq]
  generalize (lg_sl ([.ref h0, .int (nI q)]) ++ List.replicate (2 - (lg_sl ([.ref h0, .int (nI q)])).length) Slot.unset).toArray = ls at hl ⊢
  have hin1 : ∀ w ∈ wsX10, w ∈ wsX2_init := by decide +kernel
  have hin2 : ∀ w ∈ wsX20, w ∈ wsX2_init := by decide +kernel
  have h0sz : h0 < sz := by rw [← hsz]; exact qa_lt hP
  refine lv_aload_n hx hb dX2_init_0 rfl (lv_at hl 0 rfl) ?_
  refine W.objInit hx hb hown (hts (.methodLink RX2 3 objectInit) (by decide +kernel)) (hts (.instanceMethod objectInit) (by decide +kernel)) (hts (.code objectInit ⟨#[0xb1]⟩ 1 none) (by decide +kernel)) rfl (by rw [hml]; exact hl.1) rfl dX2_init_1 (Nat.le_of_ble_eq_true rfl) (Nat.le_of_ble_eq_true rfl) ?_
  refine W.eq (g2 := F0 m 4 ls []) rfl ?_
  refine lv_aload_n hx hb dX2_init_4 rfl (lv_at hl 0 rfl) ?_
  refine qn_new (ci := 1) (fs := [.null, .null, .int 0]) (C := RX1) (T := TX1) (N := 3) hx hb hts hin1 tyX1 tyX1_ok hown (hts (.classLink RX2 9 RX1) (by decide +kernel)) (hts (.instantiable RX1 3) (by decide +kernel)) (hts (.initialized RX1) (by decide +kernel)) hK hS rfl (fun j hj => by rcases (show j = 0 ∨ j = 1 ∨ j = 2 by omega) with rfl | rfl | rfl <;> rfl) (by show _ ≤ 3; omega) (by show _ ≤ 3 + 2 * q; omega) dX2_init_5 (fun q1 H hq9 hz9 ho9 hat9 hS => ?_)
  have n_h0_q1 : h0 ≠ q1 := by rw [hq9]; exact Nat.ne_of_lt (qa_lt hP)
  have hP := qa_keptL hP ho9
  have h_q1 := hat9
  have l_q1 : sz ≤ q1 := by rw [hq9]; have := hS.1; omega
  have hzn : H.size = q1 + 1 := by rw [hz9, hq9]
  refine lv_dup hx hb dX2_init_8 rfl ?_
  refine lv_iload_n hx hb dX2_init_9 rfl (lv_at hl 1 rfl) ?_
  refine qcall_a (va_runI (As := [.int (nI q)]) (rest := [.ref q1, .ref h0]) ⟨hx, hb, hml, hown, hts⟩ (c_X1_init l dd ga q1 H.size q hq7) (cwI 1 hts gX2_init_X1_init rfl rfl rfl (hts (.initialized RX1) (by decide +kernel)) (hts (.methodLink RX2 11 yX1_init) (by decide +kernel)) (hts (.instanceMethod yX1_init) (by decide +kernel)) rfl (by decide +kernel) ⟨Nat.le_of_ble_eq_true rfl, Nat.le_of_ble_eq_true rfl⟩) (qpreS hK (⟨rfl, h_q1⟩)) rfl rfl hl.1 rfl (lv_room (Nat.le_of_ble_eq_true rfl)) dX2_init_10 ⟨by show _ ≤ 3; omega, by show _ ≤ 3 + 2 * q; omega⟩) hS (fun z h => h.elim (fun h => Or.inr (by omega)) (fun h => Or.inr (by omega))) (fun H locs hp9 hz9 ho9 hS => ?_)
  have hq1z : q1 < H.size := by omega
  obtain ⟨r1, r2, l1, l2, n12, hRow⟩ := hp9
  have hP := qa_kept hP (ho9 _ (qa_lt hP) (fun h => h.elim (fun h => n_h0_q1 h) (fun h => by have := qa_lt hP; omega)))
  have h0lt : h0 < sz := h0sz
  refine qn_putF (ci := 2) (C := RX2) (T := TX2) (N := 4) hx hb hts hin2 tyX2 tyX2_ok nmX2 hown hK hP hS (Or.inl rfl) rfl 0 (by decide) (hts (.fieldLink RX2 14 "QuorumLock$Voter" "row" "LQuorumLock$Row;") (by decide +kernel)) rfl hin9 rfl rfl rfl (Nat.le_of_ble_eq_true rfl) dX2_init_13 (fun H locs hz9 ho9 hat9 hS => ?_)
  have hP : va_at dd vwCl (h0, .inr (2, [.ref q1, .int 0, .int 0, .int 0])) H := hat9
  have hq1z : q1 < H.size := by omega
  have l1 : _ ∧ r1 < H.size := ⟨l1.1, by omega⟩
  have l2 : _ ∧ r2 < H.size := ⟨l2.1, by omega⟩
  have hRow := hRow.kept (ho9 _ n_h0_q1.symm) (ho9 _ (by have := h0lt; omega)) (ho9 _ (by have := h0lt; omega))
  refine W.widen (k := 3) (n := 3 + 2 * q) (by omega) (by omega) ?_
  exact q_aret hx hb hr hlocks hS (⟨q1, r1, r2, ⟨l_q1, hq1z⟩, ⟨by omega, l1.2⟩, ⟨by omega, l2.2⟩, by omega, by omega, n12, hP, hRow⟩) dX2_init_16
set_option maxHeartbeats 4000000 in
set_option maxRecDepth 100000 in
/-- X3_init -/
theorem c_X3_init (l : Launch) (dd : va_G) (ga : Nat → ClassId) (h0 sz n : Nat) (hn : n ≤ 16) : Met l yX3_init wsX3_init ({ frames := 1, cells := 4, slots := n * n * 8 * 3 + n * n + n * n + n, locals := 21 }) (qPc dd ga [.ref h0, .int (nI n)] (fun H => H.size = sz ∧ va_at dd vwCl (h0, .inr (3, [.int 0, .null, .null, .null, .null])) H)) (qQa (fun H => ∃ h1 h2 h3 h4 : Nat, (sz ≤ h1 ∧ h1 < h2 ∧ h2 < h3 ∧ h3 < h4 ∧ h4 < H.size) ∧ qWir dd ga n h0 h1 h2 h3 h4 (fun _ _ => []) H) (fun q => q = h0 ∨ sz ≤ q)) (4) (n * n * 8 * 3 + n * n + n * n + n) (fun q => q = h0 ∨ sz ≤ q) := by
  refine Met.ofW (cc := cX3_init) (maxL := 2) (ret := none) (by decide) rfl ?_
  intro p e s m args below meth c s₁ B hml hv
  obtain ⟨rfl, ⟨hsz, hP⟩, hK⟩ := hv
  have hx := B.exec
  have hb := B.bytes
  have hr := B.returns
  have hts := atoms_spec (ws := wsX3_init) B.pre
  have hown : s.vm.findClass RX3 = some m.cls := findClass_of_methodNamed B.named
  have hlocks := B.notSynchronized
  have hin9 : meth.name = "<init>" := (name_of_methodNamed B.named B.method).1
  have hS : va_S (fun q => q = h0 ∨ sz ≤ q) s.heap s.heap [] := va_S.rf
  have hl := lv_entry ([.ref h0, .int (nI n)]) (n := 2) (Nat.le_of_ble_eq_true rfl)
  rw [lg_entry_eq]
  generalize (lg_sl ([.ref h0, .int (nI n)]) ++ List.replicate (2 - (lg_sl ([.ref h0, .int (nI n)])).length) Slot.unset).toArray = ls at hl ⊢
  have hin3 : ∀ w ∈ wsX30, w ∈ wsX3_init := by decide +kernel
  have hn2 := q_n2 hn
  refine lv_aload_n hx hb dX3_init_0 rfl (lv_at hl 0 rfl) ?_
  refine W.objInit hx hb hown (hts (.methodLink RX3 3 objectInit) (by decide +kernel)) (hts (.instanceMethod objectInit) (by decide +kernel)) (hts (.code objectInit ⟨#[0xb1]⟩ 1 none) (by decide +kernel)) rfl (by rw [hml]; exact hl.1) rfl dX3_init_1 (Nat.le_of_ble_eq_true rfl) (Nat.le_of_ble_eq_true rfl) ?_
  refine W.eq (g2 := F0 m 4 ls []) rfl ?_
  refine lv_aload_n hx hb dX3_init_4 rfl (lv_at hl 0 rfl) ?_
  refine lv_iload_n hx hb dX3_init_5 rfl (lv_at hl 1 rfl) ?_
  refine qn_putF (ci := 3) (C := RX3) (T := TX3) (N := 5) hx hb hts hin3 tyX3 tyX3_ok nmX3 hown hK hP hS (Or.inl rfl) rfl 0 (by decide) (hts (.fieldLink RX3 9 "QuorumLock$Wires" "ends" "I") (by decide +kernel)) rfl hin9 rfl rfl rfl (Nat.le_of_ble_eq_true rfl) dX3_init_6 (fun H locs hz9 ho9 hat9 hS => ?_)
  have hP : va_at dd vwCl (h0, .inr (3, [.int (nI n), .null, .null, .null, .null])) H := hat9
  refine lv_aload_n hx hb dX3_init_9 rfl (lv_at hl 0 rfl) ?_
  refine lv_iload_n hx hb dX3_init_10 rfl (lv_at hl 1 rfl) ?_
  refine lv_iload_n hx hb dX3_init_11 rfl (lv_at hl 1 rfl) ?_
  refine lv_imul hx hb dX3_init_12 ?_
  refine q_ti (y := nI (n * n)) (pk_mul _ _) ?_
  refine lv_bipush (v := nI 8) hx hb dX3_init_13 (by decide) ?_
  refine lv_imul hx hb dX3_init_15 ?_
  refine q_ti (y := nI (n * n * 8)) (pk_mul _ _) ?_
  refine lv_iconst (v := nI 3) hx hb dX3_init_16 (by decide) ?_
  refine lv_imul hx hb dX3_init_17 ?_
  refine q_ti (y := nI (n * n * 8 * 3)) (pk_mul _ _) ?_
  refine qn_newi hx hb (hts (.arrayClass .int) (by decide +kernel)) hK hS (n * n * 8 * 3) (by omega) rfl (by show _ ≤ 4; omega) (by show _ ≤ n * n * 8 * 3 + n * n + n * n + n; omega) dX3_init_18 (fun q1 H hq9 hz9 ho9 hat9 hS => ?_)
  have n_h0_q1 : h0 ≠ q1 := by rw [hq9]; exact Nat.ne_of_lt (qa_lt hP)
  have hP := qa_keptL hP ho9
  have h_q1 := hat9
  have l_q1 : sz ≤ q1 := by rw [hq9]; exact Nat.le_trans (Nat.le_of_eq hsz.symm) (Nat.le_of_lt_succ (Nat.lt_succ_of_le (by have := hS.1; omega)))
  refine qn_putF (ci := 3) (C := RX3) (T := TX3) (N := 5) hx hb hts hin3 tyX3 tyX3_ok nmX3 hown hK hP hS (Or.inl rfl) rfl 1 (by decide) (hts (.fieldLink RX3 15 "QuorumLock$Wires" "parts" "[I") (by decide +kernel)) rfl hin9 rfl rfl rfl (Nat.le_of_ble_eq_true rfl) dX3_init_20 (fun H locs hz9 ho9 hat9 hS => ?_)
  have hP : va_at dd vwCl (h0, .inr (3, [.int (nI n), .ref q1, .null, .null, .null])) H := hat9
  have h_q1 := qa_kept h_q1 (ho9 _ n_h0_q1.symm)
  refine lv_aload_n hx hb dX3_init_23 rfl (lv_at hl 0 rfl) ?_
  refine lv_iload_n hx hb dX3_init_24 rfl (lv_at hl 1 rfl) ?_
  refine lv_iload_n hx hb dX3_init_25 rfl (lv_at hl 1 rfl) ?_
  refine lv_imul hx hb dX3_init_26 ?_
  refine q_ti (y := nI (n * n)) (pk_mul _ _) ?_
  refine qn_newi hx hb (hts (.arrayClass .int) (by decide +kernel)) hK hS (n * n) (by omega) rfl (by show _ ≤ 4; omega) (by show _ ≤ n * n * 8 * 3 + n * n + n * n + n; omega) dX3_init_27 (fun q2 H hq9 hz9 ho9 hat9 hS => ?_)
  have o12 : q1 < q2 := by rw [hq9]; exact qa_lt h_q1
  have n_h0_q2 : h0 ≠ q2 := by rw [hq9]; exact Nat.ne_of_lt (qa_lt hP)
  have n_q1_q2 : q1 ≠ q2 := by rw [hq9]; exact Nat.ne_of_lt (qa_lt h_q1)
  have hP := qa_keptL hP ho9
  have h_q1 := qa_keptL h_q1 ho9
  have h_q2 := hat9
  have l_q2 : sz ≤ q2 := by rw [hq9]; exact Nat.le_trans (Nat.le_of_eq hsz.symm) (Nat.le_of_lt_succ (Nat.lt_succ_of_le (by have := hS.1; omega)))
  refine qn_putF (ci := 3) (C := RX3) (T := TX3) (N := 5) hx hb hts hin3 tyX3 tyX3_ok nmX3 hown hK hP hS (Or.inl rfl) rfl 2 (by decide) (hts (.fieldLink RX3 19 "QuorumLock$Wires" "oldest" "[I") (by decide +kernel)) rfl hin9 rfl rfl rfl (Nat.le_of_ble_eq_true rfl) dX3_init_29 (fun H locs hz9 ho9 hat9 hS => ?_)
  have hP : va_at dd vwCl (h0, .inr (3, [.int (nI n), .ref q1, .ref q2, .null, .null])) H := hat9
  have h_q1 := qa_kept h_q1 (ho9 _ n_h0_q1.symm)
  have h_q2 := qa_kept h_q2 (ho9 _ n_h0_q2.symm)
  refine lv_aload_n hx hb dX3_init_32 rfl (lv_at hl 0 rfl) ?_
  refine lv_iload_n hx hb dX3_init_33 rfl (lv_at hl 1 rfl) ?_
  refine lv_iload_n hx hb dX3_init_34 rfl (lv_at hl 1 rfl) ?_
  refine lv_imul hx hb dX3_init_35 ?_
  refine q_ti (y := nI (n * n)) (pk_mul _ _) ?_
  refine qn_newi hx hb (hts (.arrayClass .int) (by decide +kernel)) hK hS (n * n) (by omega) rfl (by show _ ≤ 4; omega) (by show _ ≤ n * n * 8 * 3 + n * n + n * n + n; omega) dX3_init_36 (fun q3 H hq9 hz9 ho9 hat9 hS => ?_)
  have o23 : q2 < q3 := by rw [hq9]; exact qa_lt h_q2
  have n_h0_q3 : h0 ≠ q3 := by rw [hq9]; exact Nat.ne_of_lt (qa_lt hP)
  have n_q1_q3 : q1 ≠ q3 := by rw [hq9]; exact Nat.ne_of_lt (qa_lt h_q1)
  have n_q2_q3 : q2 ≠ q3 := by rw [hq9]; exact Nat.ne_of_lt (qa_lt h_q2)
  have hP := qa_keptL hP ho9
  have h_q1 := qa_keptL h_q1 ho9
  have h_q2 := qa_keptL h_q2 ho9
  have h_q3 := hat9
  have l_q3 : sz ≤ q3 := by rw [hq9]; exact Nat.le_trans (Nat.le_of_eq hsz.symm) (Nat.le_of_lt_succ (Nat.lt_succ_of_le (by have := hS.1; omega)))
  refine qn_putF (ci := 3) (C := RX3) (T := TX3) (N := 5) hx hb hts hin3 tyX3 tyX3_ok nmX3 hown hK hP hS (Or.inl rfl) rfl 3 (by decide) (hts (.fieldLink RX3 22 "QuorumLock$Wires" "lying" "[I") (by decide +kernel)) rfl hin9 rfl rfl rfl (Nat.le_of_ble_eq_true rfl) dX3_init_38 (fun H locs hz9 ho9 hat9 hS => ?_)
  have hP : va_at dd vwCl (h0, .inr (3, [.int (nI n), .ref q1, .ref q2, .ref q3, .null])) H := hat9
  have h_q1 := qa_kept h_q1 (ho9 _ n_h0_q1.symm)
  have h_q2 := qa_kept h_q2 (ho9 _ n_h0_q2.symm)
  have h_q3 := qa_kept h_q3 (ho9 _ n_h0_q3.symm)
  refine lv_aload_n hx hb dX3_init_41 rfl (lv_at hl 0 rfl) ?_
  refine lv_iload_n hx hb dX3_init_42 rfl (lv_at hl 1 rfl) ?_
  refine qn_newi hx hb (hts (.arrayClass .int) (by decide +kernel)) hK hS (n) (by omega) rfl (by show _ ≤ 4; omega) (by show _ ≤ n * n * 8 * 3 + n * n + n * n + n; omega) dX3_init_43 (fun q4 H hq9 hz9 ho9 hat9 hS => ?_)
  have o34 : q3 < q4 := by rw [hq9]; exact qa_lt h_q3
  have n_h0_q4 : h0 ≠ q4 := by rw [hq9]; exact Nat.ne_of_lt (qa_lt hP)
  have n_q1_q4 : q1 ≠ q4 := by rw [hq9]; exact Nat.ne_of_lt (qa_lt h_q1)
  have n_q2_q4 : q2 ≠ q4 := by rw [hq9]; exact Nat.ne_of_lt (qa_lt h_q2)
  have n_q3_q4 : q3 ≠ q4 := by rw [hq9]; exact Nat.ne_of_lt (qa_lt h_q3)
  have hP := qa_keptL hP ho9
  have h_q1 := qa_keptL h_q1 ho9
  have h_q2 := qa_keptL h_q2 ho9
  have h_q3 := qa_keptL h_q3 ho9
  have h_q4 := hat9
  have l_q4 : sz ≤ q4 := by rw [hq9]; exact Nat.le_trans (Nat.le_of_eq hsz.symm) (Nat.le_of_lt_succ (Nat.lt_succ_of_le (by have := hS.1; omega)))
  refine qn_putF (ci := 3) (C := RX3) (T := TX3) (N := 5) hx hb hts hin3 tyX3 tyX3_ok nmX3 hown hK hP hS (Or.inl rfl) rfl 4 (by decide) (hts (.fieldLink RX3 25 "QuorumLock$Wires" "lyingFrom" "[I") (by decide +kernel)) rfl hin9 rfl rfl rfl (Nat.le_of_ble_eq_true rfl) dX3_init_45 (fun H locs hz9 ho9 hat9 hS => ?_)
  have hP : va_at dd vwCl (h0, .inr (3, [.int (nI n), .ref q1, .ref q2, .ref q3, .ref q4])) H := hat9
  have h_q1 := qa_kept h_q1 (ho9 _ n_h0_q1.symm)
  have h_q2 := qa_kept h_q2 (ho9 _ n_h0_q2.symm)
  have h_q3 := qa_kept h_q3 (ho9 _ n_h0_q3.symm)
  have h_q4 := qa_kept h_q4 (ho9 _ n_h0_q4.symm)
  refine W.widen (k := 4) (n := n * n * 8 * 3 + n * n + n * n + n) (by omega) (by omega) ?_
  exact q_aret hx hb hr hlocks hS (⟨q1, q2, q3, q4, ⟨l_q1, o12, o23, o34, qa_lt h_q4⟩, fun _ => 0, fun _ => 0, fun _ => 0, fun _ => 0, hP, h_q1, h_q2, h_q3, h_q4, fun f t hf ht => ⟨0, by decide, rfl, rfl, by simp, fun m0 x0 hm0 => by simp at hm0⟩, fun f hf => by rw [q_sum_e]; rfl⟩) dX3_init_48
