set_option maxHeartbeats 4000000 in
set_option maxRecDepth 100000 in
/-- Asker.forgetSets -/
theorem c_X0_forgetSets (l : Launch) (dd : va_G) (ga : Nat → ClassId) (h0 : Nat) (f0 f1 f2 f3 f4 : Int32) : Met l yX0_forgetSets wsX0_forgetSets ({ frames := 0, cells := 0, slots := 0, locals := 0 }) (qPc dd ga [.ref h0] (fun H => va_at dd vwCl (h0, .inr (0, [.int f0, .int f1, .int f2, .int f3, .int f4])) H)) (qQv (fun H => va_at dd vwCl (h0, .inr (0, [.int f0, .int f1, .int 0, .int 0, .int 0])) H) (fun q => q = h0)) 0 0 (fun q => q = h0) := by
  refine Met.ofW (cc := cX0_forgetSets) (maxL := 1) (ret := none) (by decide) rfl ?_
  intro p e s m args below meth c s₁ B hml hv
  obtain ⟨rfl, hP, hK⟩ := hv
  have hx := B.exec
  have hb := B.bytes
  have hr := B.returns
  have hts := atoms_spec (ws := wsX0_forgetSets) B.pre
  have hown : s.vm.findClass RX0 = some m.cls := findClass_of_methodNamed B.named
  have hlocks := B.notSynchronized
  have hS : qS (fun q => q = h0) s.heap s.heap [] := qS.rf
  have hl := lv_entry ([.ref h0]) (n := 1) (Nat.le_of_ble_eq_true rfl)
  rw [lg_entry_eq]
  generalize (lg_sl ([.ref h0]) ++ List.replicate (1 - (lg_sl ([.ref h0])).length) Slot.unset).toArray = ls at hl ⊢
  have hin0 : ∀ w ∈ wsX00, w ∈ wsX0_forgetSets := by decide +kernel
  refine lv_aload_n hx hb dX0_forgetSets_0 rfl (lv_at hl 0 rfl) ?_
  refine lv_iconst (v := 0) hx hb dX0_forgetSets_1 (by decide) ?_
  refine qr_put (ci := 0) (C := RX0) (T := TX0) (N := 5) hx hb hts hin0 tyX0 tyX0_ok nmX0 hown hK hP hS rfl rfl 2 (by decide) (hts (.fieldLink RX0 21 "QuorumLock$Asker" "votes" "I") (by decide +kernel)) rfl rfl rfl (Nat.le_of_ble_eq_true rfl) dX0_forgetSets_2 (fun H locs hz9 ho9 hat9 hS => ?_)
  have hP : va_at dd vwCl (h0, .inr (0, [.int f0, .int f1, .int 0, .int f3, .int f4])) H := hat9
  refine lv_aload_n hx hb dX0_forgetSets_5 rfl (lv_at hl 0 rfl) ?_
  refine lv_iconst (v := 0) hx hb dX0_forgetSets_6 (by decide) ?_
  refine qr_put (ci := 0) (C := RX0) (T := TX0) (N := 5) hx hb hts hin0 tyX0 tyX0_ok nmX0 hown hK hP hS rfl rfl 3 (by decide) (hts (.fieldLink RX0 24 "QuorumLock$Asker" "failures" "I") (by decide +kernel)) rfl rfl rfl (Nat.le_of_ble_eq_true rfl) dX0_forgetSets_7 (fun H locs hz9 ho9 hat9 hS => ?_)
  have hP : va_at dd vwCl (h0, .inr (0, [.int f0, .int f1, .int 0, .int 0, .int f4])) H := hat9
  refine lv_aload_n hx hb dX0_forgetSets_10 rfl (lv_at hl 0 rfl) ?_
  refine lv_iconst (v := 0) hx hb dX0_forgetSets_11 (by decide) ?_
  refine qr_put (ci := 0) (C := RX0) (T := TX0) (N := 5) hx hb hts hin0 tyX0 tyX0_ok nmX0 hown hK hP hS rfl rfl 4 (by decide) (hts (.fieldLink RX0 27 "QuorumLock$Asker" "inquiries" "I") (by decide +kernel)) rfl rfl rfl (Nat.le_of_ble_eq_true rfl) dX0_forgetSets_12 (fun H locs hz9 ho9 hat9 hS => ?_)
  have hP : va_at dd vwCl (h0, .inr (0, [.int f0, .int f1, .int 0, .int 0, .int 0])) H := hat9
  exact q_vret hx hb hr hlocks hS hP dX0_forgetSets_15
set_option maxHeartbeats 4000000 in
set_option maxRecDepth 100000 in
/-- Asker.becomeIdle -/
theorem c_X0_becomeIdle (l : Launch) (dd : va_G) (ga : Nat → ClassId) (h0 : Nat) (f0 f1 f2 f3 f4 : Int32) : Met l yX0_becomeIdle wsX0_becomeIdle ({ frames := 1, cells := 0, slots := 0, locals := 20 }) (qPc dd ga [.ref h0] (fun H => va_at dd vwCl (h0, .inr (0, [.int f0, .int f1, .int f2, .int f3, .int f4])) H)) (qQv (fun H => va_at dd vwCl (h0, .inr (0, [.int 0, .int 0, .int 0, .int 0, .int 0])) H) (fun q => q = h0)) 0 0 (fun q => q = h0) := by
  refine Met.ofW (cc := cX0_becomeIdle) (maxL := 1) (ret := none) (by decide) rfl ?_
  intro p e s m args below meth c s₁ B hml hv
  obtain ⟨rfl, hP, hK⟩ := hv
  have hx := B.exec
  have hb := B.bytes
  have hr := B.returns
  have hts := atoms_spec (ws := wsX0_becomeIdle) B.pre
  have hown : s.vm.findClass RX0 = some m.cls := findClass_of_methodNamed B.named
  have hlocks := B.notSynchronized
  have hS : qS (fun q => q = h0) s.heap s.heap [] := qS.rf
  have hl := lv_entry ([.ref h0]) (n := 1) (Nat.le_of_ble_eq_true rfl)
  rw [lg_entry_eq]
  generalize (lg_sl ([.ref h0]) ++ List.replicate (1 - (lg_sl ([.ref h0])).length) Slot.unset).toArray = ls at hl ⊢
  have hin0 : ∀ w ∈ wsX00, w ∈ wsX0_becomeIdle := by decide +kernel
  refine lv_aload_n hx hb dX0_becomeIdle_0 rfl (lv_at hl 0 rfl) ?_
  refine lv_iconst (v := 0) hx hb dX0_becomeIdle_1 (by decide) ?_
  refine qr_put (ci := 0) (C := RX0) (T := TX0) (N := 5) hx hb hts hin0 tyX0 tyX0_ok nmX0 hown hK hP hS rfl rfl 0 (by decide) (hts (.fieldLink RX0 9 "QuorumLock$Asker" "state" "I") (by decide +kernel)) rfl rfl rfl (Nat.le_of_ble_eq_true rfl) dX0_becomeIdle_2 (fun H locs hz9 ho9 hat9 hS => ?_)
  have hP : va_at dd vwCl (h0, .inr (0, [.int 0, .int f1, .int f2, .int f3, .int f4])) H := hat9
  refine lv_aload_n hx hb dX0_becomeIdle_5 rfl (lv_at hl 0 rfl) ?_
  refine lv_iconst (v := 0) hx hb dX0_becomeIdle_6 (by decide) ?_
  refine qr_put (ci := 0) (C := RX0) (T := TX0) (N := 5) hx hb hts hin0 tyX0 tyX0_ok nmX0 hown hK hP hS rfl rfl 1 (by decide) (hts (.fieldLink RX0 15 "QuorumLock$Asker" "time" "I") (by decide +kernel)) rfl rfl rfl (Nat.le_of_ble_eq_true rfl) dX0_becomeIdle_7 (fun H locs hz9 ho9 hat9 hS => ?_)
  have hP : va_at dd vwCl (h0, .inr (0, [.int 0, .int 0, .int f2, .int f3, .int f4])) H := hat9
  refine lv_aload_n hx hb dX0_becomeIdle_10 rfl (lv_at hl 0 rfl) ?_
  refine qc_v (va_runV (As := []) (rest := []) ⟨hx, hb, hml, hown, hts⟩ (c_X0_forgetSets l dd ga h0 0 0 f2 f3 f4) (cwV 0 hts gX0_becomeIdle_X0_forgetSets rfl rfl rfl (by decide +kernel) ⟨Nat.le_of_ble_eq_true rfl, Nat.le_of_ble_eq_true rfl⟩) (qpreV hK hP hP rfl) rfl rfl hl.1 rfl (lv_room (Nat.le_of_ble_eq_true rfl)) dX0_becomeIdle_11 ⟨Nat.zero_le _, Nat.zero_le _⟩) hS (fun q h => h) (fun H locs hp9 hz9 ho9 hS => ?_)
  have hP := hp9
  exact q_vret hx hb hr hlocks hS hP dX0_becomeIdle_14
set_option maxHeartbeats 4000000 in
set_option maxRecDepth 100000 in
/-- Asker.becomeAsking -/
theorem c_X0_becomeAsking (l : Launch) (dd : va_G) (ga : Nat → ClassId) (h0 : Nat) (f0 f1 f2 f3 f4 : Int32) (x : Int32) : Met l yX0_becomeAsking wsX0_becomeAsking ({ frames := 1, cells := 0, slots := 0, locals := 20 }) (qPc dd ga [.ref h0, .int x] (fun H => va_at dd vwCl (h0, .inr (0, [.int f0, .int f1, .int f2, .int f3, .int f4])) H)) (qQv (fun H => va_at dd vwCl (h0, .inr (0, [.int 1, .int x, .int 0, .int 0, .int 0])) H) (fun q => q = h0)) 0 0 (fun q => q = h0) := by
  refine Met.ofW (cc := cX0_becomeAsking) (maxL := 2) (ret := none) (by decide) rfl ?_
  intro p e s m args below meth c s₁ B hml hv
  obtain ⟨rfl, hP, hK⟩ := hv
  have hx := B.exec
  have hb := B.bytes
  have hr := B.returns
  have hts := atoms_spec (ws := wsX0_becomeAsking) B.pre
  have hown : s.vm.findClass RX0 = some m.cls := findClass_of_methodNamed B.named
  have hlocks := B.notSynchronized
  have hS : qS (fun q => q = h0) s.heap s.heap [] := qS.rf
  have hl := lv_entry ([.ref h0, .int x]) (n := 2) (Nat.le_of_ble_eq_true rfl)
  rw [lg_entry_eq]
  generalize (lg_sl ([.ref h0, .int x]) ++ List.replicate (2 - (lg_sl ([.ref h0, .int x])).length) Slot.unset).toArray = ls at hl ⊢
  have hin0 : ∀ w ∈ wsX00, w ∈ wsX0_becomeAsking := by decide +kernel
  refine lv_aload_n hx hb dX0_becomeAsking_0 rfl (lv_at hl 0 rfl) ?_
  refine lv_iconst (v := 1) hx hb dX0_becomeAsking_1 (by decide) ?_
  refine qr_put (ci := 0) (C := RX0) (T := TX0) (N := 5) hx hb hts hin0 tyX0 tyX0_ok nmX0 hown hK hP hS rfl rfl 0 (by decide) (hts (.fieldLink RX0 9 "QuorumLock$Asker" "state" "I") (by decide +kernel)) rfl rfl rfl (Nat.le_of_ble_eq_true rfl) dX0_becomeAsking_2 (fun H locs hz9 ho9 hat9 hS => ?_)
  have hP : va_at dd vwCl (h0, .inr (0, [.int 1, .int f1, .int f2, .int f3, .int f4])) H := hat9
  refine lv_aload_n hx hb dX0_becomeAsking_5 rfl (lv_at hl 0 rfl) ?_
  refine lv_iload_n hx hb dX0_becomeAsking_6 rfl (lv_at hl 1 rfl) ?_
  refine qr_put (ci := 0) (C := RX0) (T := TX0) (N := 5) hx hb hts hin0 tyX0 tyX0_ok nmX0 hown hK hP hS rfl rfl 1 (by decide) (hts (.fieldLink RX0 15 "QuorumLock$Asker" "time" "I") (by decide +kernel)) rfl rfl rfl (Nat.le_of_ble_eq_true rfl) dX0_becomeAsking_7 (fun H locs hz9 ho9 hat9 hS => ?_)
  have hP : va_at dd vwCl (h0, .inr (0, [.int 1, .int x, .int f2, .int f3, .int f4])) H := hat9
  refine lv_aload_n hx hb dX0_becomeAsking_10 rfl (lv_at hl 0 rfl) ?_
  refine qc_v (va_runV (As := []) (rest := []) ⟨hx, hb, hml, hown, hts⟩ (c_X0_forgetSets l dd ga h0 1 x f2 f3 f4) (cwV 0 hts gX0_becomeAsking_X0_forgetSets rfl rfl rfl (by decide +kernel) ⟨Nat.le_of_ble_eq_true rfl, Nat.le_of_ble_eq_true rfl⟩) (qpreV hK hP hP rfl) rfl rfl hl.1 rfl (lv_room (Nat.le_of_ble_eq_true rfl)) dX0_becomeAsking_11 ⟨Nat.zero_le _, Nat.zero_le _⟩) hS (fun q h => h) (fun H locs hp9 hz9 ho9 hS => ?_)
  have hP := hp9
  exact q_vret hx hb hr hlocks hS hP dX0_becomeAsking_14
set_option maxHeartbeats 4000000 in
set_option maxRecDepth 100000 in
/-- Asker.isAsking -/
theorem c_X0_isAsking (l : Launch) (dd : va_G) (ga : Nat → ClassId) (h0 : Nat) (f0 f1 f2 f3 f4 x : Int32) : Met l yX0_isAsking wsX0_isAsking ({ frames := 0, cells := 0, slots := 0, locals := 0 }) (qPc dd ga [.ref h0, .int x] (fun H => va_at dd vwCl (h0, .inr (0, [.int f0, .int f1, .int f2, .int f3, .int f4])) H)) (qQi (fun r _ => r = (if f0 = 1 ∧ f1 = x then 1 else 0)) (fun _ => False)) 0 0 (fun _ => False) := by
  refine Met.ofW (cc := cX0_isAsking) (maxL := 2) (ret := (some .boolean)) (by decide) rfl ?_
  intro p e s m args below meth c s₁ B hml hv
  obtain ⟨rfl, hP, hK⟩ := hv
  have hx := B.exec
  have hb := B.bytes
  have hr := B.returns
  have hts := atoms_spec (ws := wsX0_isAsking) B.pre
  have hown : s.vm.findClass RX0 = some m.cls := findClass_of_methodNamed B.named
  have hlocks := B.notSynchronized
  have hS : qS (fun _ => False) s.heap s.heap [] := qS.rf
  have hl := lv_entry ([.ref h0, .int x]) (n := 2) (Nat.le_of_ble_eq_true rfl)
  rw [lg_entry_eq]
  generalize (lg_sl ([.ref h0, .int x]) ++ List.replicate (2 - (lg_sl ([.ref h0, .int x])).length) Slot.unset).toArray = ls at hl ⊢
  have hin0 : ∀ w ∈ wsX00, w ∈ wsX0_isAsking := by decide +kernel
  refine lv_aload_n hx hb dX0_isAsking_0 rfl (lv_at hl 0 rfl) ?_
  refine qr_get (ci := 0) (C := RX0) (T := TX0) (N := 5) hx hb hts hin0 hown hK hP rfl 0 (by decide) (hts (.fieldLink RX0 9 "QuorumLock$Asker" "state" "I") (by decide +kernel)) rfl dX0_isAsking_1 ?_
  refine lv_iconst (v := 1) hx hb dX0_isAsking_4 (by decide) ?_
  refine lv_icmp_ne (tgt := 20) hx hb dX0_isAsking_5 (by decide) (fun c_5 => ?_) (fun c_5 => ?_)
  · refine lv_iconst (v := 0) hx hb dX0_isAsking_20 (by decide) ?_
    exact q_zret hx hb hr hlocks rfl hS (by simp_all) dX0_isAsking_21
  · refine lv_aload_n hx hb dX0_isAsking_8 rfl (lv_at hl 0 rfl) ?_
    refine qr_get (ci := 0) (C := RX0) (T := TX0) (N := 5) hx hb hts hin0 hown hK hP rfl 1 (by decide) (hts (.fieldLink RX0 15 "QuorumLock$Asker" "time" "I") (by decide +kernel)) rfl dX0_isAsking_9 ?_
    refine lv_iload_n hx hb dX0_isAsking_12 rfl (lv_at hl 1 rfl) ?_
    refine lv_icmp_ne (tgt := 20) hx hb dX0_isAsking_13 (by decide) (fun c_13 => ?_) (fun c_13 => ?_)
    · refine lv_iconst (v := 0) hx hb dX0_isAsking_20 (by decide) ?_
      exact q_zret hx hb hr hlocks rfl hS (by simp_all) dX0_isAsking_21
    · refine lv_iconst (v := 1) hx hb dX0_isAsking_16 (by decide) ?_
      refine lv_goto (tgt := 21) hx hb dX0_isAsking_17 (by decide) ?_
      exact q_zret hx hb hr hlocks rfl hS (by simp_all) dX0_isAsking_21
set_option maxHeartbeats 4000000 in
set_option maxRecDepth 100000 in
/-- Asker.gainVote -/
theorem c_X0_gainVote (l : Launch) (dd : va_G) (ga : Nat → ClassId) (h0 : Nat) (f0 f1 f2 f3 f4 : Int32) (x : Int32) : Met l yX0_gainVote wsX0_gainVote ({ frames := 0, cells := 0, slots := 0, locals := 0 }) (qPc dd ga [.ref h0, .int x] (fun H => va_at dd vwCl (h0, .inr (0, [.int f0, .int f1, .int f2, .int f3, .int f4])) H)) (qQv (fun H => va_at dd vwCl (h0, .inr (0, [.int f0, .int f1, .int (f2 ||| ((1 : Int32) <<< (x &&& 31))), .int (f3 &&& (((1 : Int32) <<< (x &&& 31)) ^^^ (-1))), .int f4])) H) (fun q => q = h0)) 0 0 (fun q => q = h0) := by
  refine Met.ofW (cc := cX0_gainVote) (maxL := 2) (ret := none) (by decide) rfl ?_
  intro p e s m args below meth c s₁ B hml hv
  obtain ⟨rfl, hP, hK⟩ := hv
  have hx := B.exec
  have hb := B.bytes
  have hr := B.returns
  have hts := atoms_spec (ws := wsX0_gainVote) B.pre
  have hown : s.vm.findClass RX0 = some m.cls := findClass_of_methodNamed B.named
  have hlocks := B.notSynchronized
  have hS : qS (fun q => q = h0) s.heap s.heap [] := qS.rf
  have hl := lv_entry ([.ref h0, .int x]) (n := 2) (Nat.le_of_ble_eq_true rfl)
  rw [lg_entry_eq]
  generalize (lg_sl ([.ref h0, .int x]) ++ List.replicate (2 - (lg_sl ([.ref h0, .int x])).length) Slot.unset).toArray = ls at hl ⊢
  have hin0 : ∀ w ∈ wsX00, w ∈ wsX0_gainVote := by decide +kernel
  refine lv_aload_n hx hb dX0_gainVote_0 rfl (lv_at hl 0 rfl) ?_
  refine lv_dup hx hb dX0_gainVote_1 rfl ?_
  refine qr_get (ci := 0) (C := RX0) (T := TX0) (N := 5) hx hb hts hin0 hown hK hP rfl 2 (by decide) (hts (.fieldLink RX0 21 "QuorumLock$Asker" "votes" "I") (by decide +kernel)) rfl dX0_gainVote_2 ?_
  refine lv_iconst (v := 1) hx hb dX0_gainVote_5 (by decide) ?_
  refine lv_iload_n hx hb dX0_gainVote_6 rfl (lv_at hl 1 rfl) ?_
  refine lv_ishl hx hb dX0_gainVote_7 ?_
  refine lv_ior hx hb dX0_gainVote_8 ?_
  refine qr_put (ci := 0) (C := RX0) (T := TX0) (N := 5) hx hb hts hin0 tyX0 tyX0_ok nmX0 hown hK hP hS rfl rfl 2 (by decide) (hts (.fieldLink RX0 21 "QuorumLock$Asker" "votes" "I") (by decide +kernel)) rfl rfl rfl (Nat.le_of_ble_eq_true rfl) dX0_gainVote_9 (fun H locs hz9 ho9 hat9 hS => ?_)
  have hP : va_at dd vwCl (h0, .inr (0, [.int f0, .int f1, .int (f2 ||| (1 <<< (x &&& 31))), .int f3, .int f4])) H := hat9
  refine lv_aload_n hx hb dX0_gainVote_12 rfl (lv_at hl 0 rfl) ?_
  refine lv_dup hx hb dX0_gainVote_13 rfl ?_
  refine qr_get (ci := 0) (C := RX0) (T := TX0) (N := 5) hx hb hts hin0 hown hK hP rfl 3 (by decide) (hts (.fieldLink RX0 24 "QuorumLock$Asker" "failures" "I") (by decide +kernel)) rfl dX0_gainVote_14 ?_
  refine lv_iconst (v := 1) hx hb dX0_gainVote_17 (by decide) ?_
  refine lv_iload_n hx hb dX0_gainVote_18 rfl (lv_at hl 1 rfl) ?_
  refine lv_ishl hx hb dX0_gainVote_19 ?_
  refine lv_iconst (v := (-1)) hx hb dX0_gainVote_20 (by decide) ?_
  refine lv_ixor hx hb dX0_gainVote_21 ?_
  refine lv_iand hx hb dX0_gainVote_22 ?_
  refine qr_put (ci := 0) (C := RX0) (T := TX0) (N := 5) hx hb hts hin0 tyX0 tyX0_ok nmX0 hown hK hP hS rfl rfl 3 (by decide) (hts (.fieldLink RX0 24 "QuorumLock$Asker" "failures" "I") (by decide +kernel)) rfl rfl rfl (Nat.le_of_ble_eq_true rfl) dX0_gainVote_23 (fun H locs hz9 ho9 hat9 hS => ?_)
  have hP : va_at dd vwCl (h0, .inr (0, [.int f0, .int f1, .int (f2 ||| (1 <<< (x &&& 31))), .int (f3 &&& ((1 <<< (x &&& 31)) ^^^ (-1))), .int f4])) H := hat9
  exact q_vret hx hb hr hlocks hS hP dX0_gainVote_26
set_option maxHeartbeats 4000000 in
set_option maxRecDepth 100000 in
/-- Asker.loseVote -/
theorem c_X0_loseVote (l : Launch) (dd : va_G) (ga : Nat → ClassId) (h0 : Nat) (f0 f1 f2 f3 f4 : Int32) (x : Int32) : Met l yX0_loseVote wsX0_loseVote ({ frames := 0, cells := 0, slots := 0, locals := 0 }) (qPc dd ga [.ref h0, .int x] (fun H => va_at dd vwCl (h0, .inr (0, [.int f0, .int f1, .int f2, .int f3, .int f4])) H)) (qQv (fun H => va_at dd vwCl (h0, .inr (0, [.int f0, .int f1, .int (f2 &&& (((1 : Int32) <<< (x &&& 31)) ^^^ (-1))), .int (f3 ||| ((1 : Int32) <<< (x &&& 31))), .int (f4 &&& (((1 : Int32) <<< (x &&& 31)) ^^^ (-1)))])) H) (fun q => q = h0)) 0 0 (fun q => q = h0) := by
  refine Met.ofW (cc := cX0_loseVote) (maxL := 2) (ret := none) (by decide) rfl ?_
  intro p e s m args below meth c s₁ B hml hv
  obtain ⟨rfl, hP, hK⟩ := hv
  have hx := B.exec
  have hb := B.bytes
  have hr := B.returns
  have hts := atoms_spec (ws := wsX0_loseVote) B.pre
  have hown : s.vm.findClass RX0 = some m.cls := findClass_of_methodNamed B.named
  have hlocks := B.notSynchronized
  have hS : qS (fun q => q = h0) s.heap s.heap [] := qS.rf
  have hl := lv_entry ([.ref h0, .int x]) (n := 2) (Nat.le_of_ble_eq_true rfl)
  rw [lg_entry_eq]
  generalize (lg_sl ([.ref h0, .int x]) ++ List.replicate (2 - (lg_sl ([.ref h0, .int x])).length) Slot.unset).toArray = ls at hl ⊢
  have hin0 : ∀ w ∈ wsX00, w ∈ wsX0_loseVote := by decide +kernel
  refine lv_aload_n hx hb dX0_loseVote_0 rfl (lv_at hl 0 rfl) ?_
  refine lv_dup hx hb dX0_loseVote_1 rfl ?_
  refine qr_get (ci := 0) (C := RX0) (T := TX0) (N := 5) hx hb hts hin0 hown hK hP rfl 2 (by decide) (hts (.fieldLink RX0 21 "QuorumLock$Asker" "votes" "I") (by decide +kernel)) rfl dX0_loseVote_2 ?_
  refine lv_iconst (v := 1) hx hb dX0_loseVote_5 (by decide) ?_
  refine lv_iload_n hx hb dX0_loseVote_6 rfl (lv_at hl 1 rfl) ?_
  refine lv_ishl hx hb dX0_loseVote_7 ?_
  refine lv_iconst (v := (-1)) hx hb dX0_loseVote_8 (by decide) ?_
  refine lv_ixor hx hb dX0_loseVote_9 ?_
  refine lv_iand hx hb dX0_loseVote_10 ?_
  refine qr_put (ci := 0) (C := RX0) (T := TX0) (N := 5) hx hb hts hin0 tyX0 tyX0_ok nmX0 hown hK hP hS rfl rfl 2 (by decide) (hts (.fieldLink RX0 21 "QuorumLock$Asker" "votes" "I") (by decide +kernel)) rfl rfl rfl (Nat.le_of_ble_eq_true rfl) dX0_loseVote_11 (fun H locs hz9 ho9 hat9 hS => ?_)
  have hP : va_at dd vwCl (h0, .inr (0, [.int f0, .int f1, .int (f2 &&& ((1 <<< (x &&& 31)) ^^^ (-1))), .int f3, .int f4])) H := hat9
  refine lv_aload_n hx hb dX0_loseVote_14 rfl (lv_at hl 0 rfl) ?_
  refine lv_dup hx hb dX0_loseVote_15 rfl ?_
  refine qr_get (ci := 0) (C := RX0) (T := TX0) (N := 5) hx hb hts hin0 hown hK hP rfl 4 (by decide) (hts (.fieldLink RX0 27 "QuorumLock$Asker" "inquiries" "I") (by decide +kernel)) rfl dX0_loseVote_16 ?_
  refine lv_iconst (v := 1) hx hb dX0_loseVote_19 (by decide) ?_
  refine lv_iload_n hx hb dX0_loseVote_20 rfl (lv_at hl 1 rfl) ?_
  refine lv_ishl hx hb dX0_loseVote_21 ?_
  refine lv_iconst (v := (-1)) hx hb dX0_loseVote_22 (by decide) ?_
  refine lv_ixor hx hb dX0_loseVote_23 ?_
  refine lv_iand hx hb dX0_loseVote_24 ?_
  refine qr_put (ci := 0) (C := RX0) (T := TX0) (N := 5) hx hb hts hin0 tyX0 tyX0_ok nmX0 hown hK hP hS rfl rfl 4 (by decide) (hts (.fieldLink RX0 27 "QuorumLock$Asker" "inquiries" "I") (by decide +kernel)) rfl rfl rfl (Nat.le_of_ble_eq_true rfl) dX0_loseVote_25 (fun H locs hz9 ho9 hat9 hS => ?_)
  have hP : va_at dd vwCl (h0, .inr (0, [.int f0, .int f1, .int (f2 &&& ((1 <<< (x &&& 31)) ^^^ (-1))), .int f3, .int (f4 &&& ((1 <<< (x &&& 31)) ^^^ (-1)))])) H := hat9
  refine lv_aload_n hx hb dX0_loseVote_28 rfl (lv_at hl 0 rfl) ?_
  refine lv_dup hx hb dX0_loseVote_29 rfl ?_
  refine qr_get (ci := 0) (C := RX0) (T := TX0) (N := 5) hx hb hts hin0 hown hK hP rfl 3 (by decide) (hts (.fieldLink RX0 24 "QuorumLock$Asker" "failures" "I") (by decide +kernel)) rfl dX0_loseVote_30 ?_
  refine lv_iconst (v := 1) hx hb dX0_loseVote_33 (by decide) ?_
  refine lv_iload_n hx hb dX0_loseVote_34 rfl (lv_at hl 1 rfl) ?_
  refine lv_ishl hx hb dX0_loseVote_35 ?_
  refine lv_ior hx hb dX0_loseVote_36 ?_
  refine qr_put (ci := 0) (C := RX0) (T := TX0) (N := 5) hx hb hts hin0 tyX0 tyX0_ok nmX0 hown hK hP hS rfl rfl 3 (by decide) (hts (.fieldLink RX0 24 "QuorumLock$Asker" "failures" "I") (by decide +kernel)) rfl rfl rfl (Nat.le_of_ble_eq_true rfl) dX0_loseVote_37 (fun H locs hz9 ho9 hat9 hS => ?_)
  have hP : va_at dd vwCl (h0, .inr (0, [.int f0, .int f1, .int (f2 &&& ((1 <<< (x &&& 31)) ^^^ (-1))), .int (f3 ||| (1 <<< (x &&& 31))), .int (f4 &&& ((1 <<< (x &&& 31)) ^^^ (-1)))])) H := hat9
  exact q_vret hx hb hr hlocks hS hP dX0_loseVote_40
