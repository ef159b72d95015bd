set_option maxHeartbeats 4000000 in
set_option maxRecDepth 100000 in
/-- X2_takeHome -/
theorem c_X2_takeHome (l : Launch) (dd : va_G) (ga : Nat → ClassId) (h0 r0 : Nat) (v1 v2 v3 : Int32) : Met l yX2_takeHome wsX2_takeHome ({ frames := 0, cells := 0, slots := 0, locals := 0 }) (qPc dd ga [.ref h0] (fun H => va_at dd vwCl (h0, .inr (2, [.ref r0, .int v1, .int v2, .int v3])) H)) (qQv (fun H => va_at dd vwCl (h0, .inr (2, [.ref r0, .int (-1), .int 0, .int 0])) H) (fun q => q = h0)) 0 0 (fun q => q = h0) := by
  refine Met.ofW (cc := cX2_takeHome) (maxL := 1) (ret := none) (by decide) rfl ?_
  intro p e s m args below meth c s₁ B hml hv
  obtain ⟨rfl, hP, hK⟩ := hv
  have hx := B.exec
  have hb := B.bytes
  have hr := B.returns
  have hts := atoms_spec (ws := wsX2_takeHome) B.pre
  have hown : s.vm.findClass RX2 = some m.cls := findClass_of_methodNamed B.named
  have hlocks := B.notSynchronized
  have hS : qS (fun q => q = h0) s.heap s.heap [] := qS.rf
  have hl := lv_entry ([.ref h0]) (n := 1) (Nat.le_of_ble_eq_true rfl)
  rw [lg_entry_eq]
  generalize (lg_sl ([.ref h0]) ++ List.replicate (1 - (lg_sl ([.ref h0])).length) Slot.unset).toArray = ls at hl ⊢
  have hin2 : ∀ w ∈ wsX20, w ∈ wsX2_takeHome := by decide +kernel
  refine lv_aload_n hx hb dX2_takeHome_0 rfl (lv_at hl 0 rfl) ?_
  refine lv_iconst (v := (-1)) hx hb dX2_takeHome_1 (by decide) ?_
  refine qr_put (ci := 2) (C := RX2) (T := TX2) (N := 4) hx hb hts hin2 tyX2 tyX2_ok nmX2 hown hK hP hS rfl rfl 1 (by decide) (hts (.fieldLink RX2 27 "QuorumLock$Voter" "lentTo" "I") (by decide +kernel)) rfl rfl rfl (Nat.le_of_ble_eq_true rfl) dX2_takeHome_2 (fun H locs hz9 ho9 hat9 hS => ?_)
  have hP : va_at dd vwCl (h0, .inr (2, [.ref r0, .int (-1), .int v2, .int v3])) H := hat9
  refine lv_aload_n hx hb dX2_takeHome_5 rfl (lv_at hl 0 rfl) ?_
  refine lv_iconst (v := 0) hx hb dX2_takeHome_6 (by decide) ?_
  refine qr_put (ci := 2) (C := RX2) (T := TX2) (N := 4) hx hb hts hin2 tyX2 tyX2_ok nmX2 hown hK hP hS rfl rfl 2 (by decide) (hts (.fieldLink RX2 30 "QuorumLock$Voter" "lentTime" "I") (by decide +kernel)) rfl rfl rfl (Nat.le_of_ble_eq_true rfl) dX2_takeHome_7 (fun H locs hz9 ho9 hat9 hS => ?_)
  have hP : va_at dd vwCl (h0, .inr (2, [.ref r0, .int (-1), .int 0, .int v3])) H := hat9
  refine lv_aload_n hx hb dX2_takeHome_10 rfl (lv_at hl 0 rfl) ?_
  refine lv_iconst (v := 0) hx hb dX2_takeHome_11 (by decide) ?_
  refine qr_put (ci := 2) (C := RX2) (T := TX2) (N := 4) hx hb hts hin2 tyX2 tyX2_ok nmX2 hown hK hP hS rfl rfl 3 (by decide) (hts (.fieldLink RX2 33 "QuorumLock$Voter" "inquired" "Z") (by decide +kernel)) rfl rfl rfl (Nat.le_of_ble_eq_true rfl) dX2_takeHome_12 (fun H locs hz9 ho9 hat9 hS => ?_)
  have hP : va_at dd vwCl (h0, .inr (2, [.ref r0, .int (-1), .int 0, .int 0])) H := hat9
  exact q_vret hx hb hr hlocks hS hP dX2_takeHome_15
set_option maxHeartbeats 4000000 in
set_option maxRecDepth 100000 in
/-- X2_lendTo -/
theorem c_X2_lendTo (l : Launch) (dd : va_G) (ga : Nat → ClassId) (h0 r0 : Nat) (v1 v2 v3 : Int32) (x y : Int32) : Met l yX2_lendTo wsX2_lendTo ({ frames := 0, cells := 0, slots := 0, locals := 0 }) (qPc dd ga [.ref h0, .int x, .int y] (fun H => va_at dd vwCl (h0, .inr (2, [.ref r0, .int v1, .int v2, .int v3])) H)) (qQv (fun H => va_at dd vwCl (h0, .inr (2, [.ref r0, .int x, .int y, .int 0])) H) (fun q => q = h0)) 0 0 (fun q => q = h0) := by
  refine Met.ofW (cc := cX2_lendTo) (maxL := 3) (ret := none) (by decide) rfl ?_
  intro p e s m args below meth c s₁ B hml hv
  obtain ⟨rfl, hP, hK⟩ := hv
  have hx := B.exec
  have hb := B.bytes
  have hr := B.returns
  have hts := atoms_spec (ws := wsX2_lendTo) B.pre
  have hown : s.vm.findClass RX2 = some m.cls := findClass_of_methodNamed B.named
  have hlocks := B.notSynchronized
  have hS : qS (fun q => q = h0) s.heap s.heap [] := qS.rf
  have hl := lv_entry ([.ref h0, .int x, .int y]) (n := 3) (Nat.le_of_ble_eq_true rfl)
  rw [lg_entry_eq]
  generalize (lg_sl ([.ref h0, .int x, .int y]) ++ List.replicate (3 - (lg_sl ([.ref h0, .int x, .int y])).length) Slot.unset).toArray = ls at hl ⊢
  have hin2 : ∀ w ∈ wsX20, w ∈ wsX2_lendTo := by decide +kernel
  refine lv_aload_n hx hb dX2_lendTo_0 rfl (lv_at hl 0 rfl) ?_
  refine lv_iload_n hx hb dX2_lendTo_1 rfl (lv_at hl 1 rfl) ?_
  refine qr_put (ci := 2) (C := RX2) (T := TX2) (N := 4) hx hb hts hin2 tyX2 tyX2_ok nmX2 hown hK hP hS rfl rfl 1 (by decide) (hts (.fieldLink RX2 27 "QuorumLock$Voter" "lentTo" "I") (by decide +kernel)) rfl rfl rfl (Nat.le_of_ble_eq_true rfl) dX2_lendTo_2 (fun H locs hz9 ho9 hat9 hS => ?_)
  have hP : va_at dd vwCl (h0, .inr (2, [.ref r0, .int x, .int v2, .int v3])) H := hat9
  refine lv_aload_n hx hb dX2_lendTo_5 rfl (lv_at hl 0 rfl) ?_
  refine lv_iload_n hx hb dX2_lendTo_6 rfl (lv_at hl 2 rfl) ?_
  refine qr_put (ci := 2) (C := RX2) (T := TX2) (N := 4) hx hb hts hin2 tyX2 tyX2_ok nmX2 hown hK hP hS rfl rfl 2 (by decide) (hts (.fieldLink RX2 30 "QuorumLock$Voter" "lentTime" "I") (by decide +kernel)) rfl rfl rfl (Nat.le_of_ble_eq_true rfl) dX2_lendTo_7 (fun H locs hz9 ho9 hat9 hS => ?_)
  have hP : va_at dd vwCl (h0, .inr (2, [.ref r0, .int x, .int y, .int v3])) H := hat9
  refine lv_aload_n hx hb dX2_lendTo_10 rfl (lv_at hl 0 rfl) ?_
  refine lv_iconst (v := 0) hx hb dX2_lendTo_11 (by decide) ?_
  refine qr_put (ci := 2) (C := RX2) (T := TX2) (N := 4) hx hb hts hin2 tyX2 tyX2_ok nmX2 hown hK hP hS rfl rfl 3 (by decide) (hts (.fieldLink RX2 33 "QuorumLock$Voter" "inquired" "Z") (by decide +kernel)) rfl rfl rfl (Nat.le_of_ble_eq_true rfl) dX2_lendTo_12 (fun H locs hz9 ho9 hat9 hS => ?_)
  have hP : va_at dd vwCl (h0, .inr (2, [.ref r0, .int x, .int y, .int 0])) H := hat9
  exact q_vret hx hb hr hlocks hS hP dX2_lendTo_15
set_option maxHeartbeats 4000000 in
set_option maxRecDepth 100000 in
/-- X2_forgetAll -/
theorem c_X2_forgetAll (l : Launch) (dd : va_G) (ga : Nat → ClassId) (q h0 r0 r1 r2 : Nat) (v1 v2 v3 : Int32) (r : List (Nat × Int32)) (n0 : h0 ≠ r0) (n1 : r1 ≠ h0) (n2 : r2 ≠ h0) (n3 : r1 ≠ r0) (n4 : r2 ≠ r0) : Met l yX2_forgetAll wsX2_forgetAll ({ frames := 1, cells := 0, slots := 0, locals := 20 }) (qPc dd ga [.ref h0] (fun H => va_at dd vwCl (h0, .inr (2, [.ref r0, .int v1, .int v2, .int v3])) H ∧ qRow dd ga q r0 r1 r2 r H)) (qQv (fun H => va_at dd vwCl (h0, .inr (2, [.ref r0, .int (-1), .int 0, .int 0])) H ∧ qRow dd ga q r0 r1 r2 [] H) (fun q => q = h0 ∨ q = r0)) 0 0 (fun q => q = h0 ∨ q = r0) := by
  refine Met.ofW (cc := cX2_forgetAll) (maxL := 1) (ret := none) (by decide) rfl ?_
  intro p e s m args below meth c s₁ B hml hv
  obtain ⟨rfl, ⟨hP, f, g, hR, hF, hG, hJ⟩, hK⟩ := hv
  have hx := B.exec
  have hb := B.bytes
  have hr := B.returns
  have hts := atoms_spec (ws := wsX2_forgetAll) B.pre
  have hown : s.vm.findClass RX2 = some m.cls := findClass_of_methodNamed B.named
  have hlocks := B.notSynchronized
  have hS : qS (fun q => q = h0 ∨ q = r0) s.heap s.heap [] := qS.rf
  have hl := lv_entry ([.ref h0]) (n := 1) (Nat.le_of_ble_eq_true rfl)
  rw [lg_entry_eq]
  generalize (lg_sl ([.ref h0]) ++ List.replicate (1 - (lg_sl ([.ref h0])).length) Slot.unset).toArray = ls at hl ⊢
  have hin1 : ∀ w ∈ wsX10, w ∈ wsX2_forgetAll := by decide +kernel
  have hin2 : ∀ w ∈ wsX20, w ∈ wsX2_forgetAll := by decide +kernel
  refine lv_aload_n hx hb dX2_forgetAll_0 rfl (lv_at hl 0 rfl) ?_
  refine qc_v (va_runV (As := []) (rest := []) ⟨hx, hb, hml, hown, hts⟩ (c_X2_takeHome l dd ga h0 r0 v1 v2 v3) (cwV 0 hts gX2_forgetAll_X2_takeHome rfl rfl rfl (by decide +kernel) ⟨Nat.le_of_ble_eq_true rfl, Nat.le_of_ble_eq_true rfl⟩) (qpreV hK hP hP rfl) rfl rfl hl.1 rfl (lv_room (Nat.le_of_ble_eq_true rfl)) dX2_forgetAll_1 ⟨Nat.zero_le _, Nat.zero_le _⟩) hS (fun q h => Or.inl h) (fun H locs hp9 hz9 ho9 hS => ?_)
  have hP := hp9
  have hR := qa_kept hR (ho9 _ n0.symm)
  have hF := qa_kept hF (ho9 _ n1)
  have hG := qa_kept hG (ho9 _ n2)
  refine lv_aload_n hx hb dX2_forgetAll_4 rfl (lv_at hl 0 rfl) ?_
  refine qr_get (ci := 2) (C := RX2) (T := TX2) (N := 4) hx hb hts hin2 hown hK hP rfl 0 (by decide) (hts (.fieldLink RX2 14 "QuorumLock$Voter" "row" "LQuorumLock$Row;") (by decide +kernel)) rfl dX2_forgetAll_5 ?_
  refine lv_iconst (v := 0) hx hb dX2_forgetAll_8 (by decide) ?_
  refine qr_put (ci := 1) (C := RX1) (T := TX1) (N := 3) hx hb hts hin1 tyX1 tyX1_ok nmX1 hown hK hR hS (Or.inr rfl) rfl 2 (by decide) (hts (.fieldLink RX2 23 "QuorumLock$Row" "length" "I") (by decide +kernel)) rfl rfl rfl (Nat.le_of_ble_eq_true rfl) dX2_forgetAll_9 (fun H locs hz9 ho9 hat9 hS => ?_)
  have hR : va_at dd vwCl (r0, .inr (1, [.ref r1, .ref r2, .int 0])) H := hat9
  have hP := qa_kept hP (ho9 _ n0)
  have hF := qa_kept hF (ho9 _ n3)
  have hG := qa_kept hG (ho9 _ n4)
  exact q_vret hx hb hr hlocks hS (⟨hP, f, g, hR, hF, hG, fun j x hj => by simp at hj⟩) dX2_forgetAll_12
/-- whether the first of a row is before the request that has the vote -/
def q_press (r : List (Nat × Int32)) (u : Int32) (b : Nat) : Bool := match r with
  | [] => false
  | x :: _ => q_bef x.2 x.1 u b
set_option maxHeartbeats 4000000 in
set_option maxRecDepth 100000 in
/-- X2_isPressed -/
theorem c_X2_isPressed (l : Launch) (dd : va_G) (ga : Nat → ClassId) (q h0 r0 r1 r2 : Nat) (b : Nat) (u iq : Int32) (r : List (Nat × Int32)) (hq : q < 2 ^ 31) (hrq : r.length ≤ q) (hb31 : b < 2 ^ 31) (hr31 : ∀ x ∈ r, x.1 < 2 ^ 31) : Met l yX2_isPressed wsX2_isPressed ({ frames := 1, cells := 0, slots := 0, locals := 23 }) (qPc dd ga [.ref h0] (fun H => va_at dd vwCl (h0, .inr (2, [.ref r0, .int (nI b), .int u, .int iq])) H ∧ qRow dd ga q r0 r1 r2 r H)) (qQi (fun v _ => v = if q_press r u b = true then 1 else 0) (fun _ => False)) 0 0 (fun _ => False) := by
  refine Met.ofW (cc := cX2_isPressed) (maxL := 1) (ret := (some .boolean)) (by decide) rfl ?_
  intro p e s m args below meth c s₁ B hml hv
  obtain ⟨rfl, ⟨hP, f, g, hR, hF, hG, hJ⟩, hK⟩ := hv
  have hx := B.exec
  have hb := B.bytes
  have hr := B.returns
  have hts := atoms_spec (ws := wsX2_isPressed) B.pre
  have hown : s.vm.findClass RX2 = some m.cls := findClass_of_methodNamed B.named
  have hlocks := B.notSynchronized
  have hS : qS (fun _ => False) s.heap s.heap [] := qS.rf
  have hl := lv_entry ([.ref h0]) (n := 1) (Nat.le_of_ble_eq_true rfl)
  rw [lg_entry_eq]
  generalize (lg_sl ([.ref h0]) ++ List.replicate (1 - (lg_sl ([.ref h0])).length) Slot.unset).toArray = ls at hl ⊢
  have hin1 : ∀ w ∈ wsX10, w ∈ wsX2_isPressed := by decide +kernel
  have hin2 : ∀ w ∈ wsX20, w ∈ wsX2_isPressed := by decide +kernel
  refine lv_aload_n hx hb dX2_isPressed_0 rfl (lv_at hl 0 rfl) ?_
  refine qr_get (ci := 2) (C := RX2) (T := TX2) (N := 4) hx hb hts hin2 hown hK hP rfl 0 (by decide) (hts (.fieldLink RX2 14 "QuorumLock$Voter" "row" "LQuorumLock$Row;") (by decide +kernel)) rfl dX2_isPressed_1 ?_
  refine qr_get (ci := 1) (C := RX1) (T := TX1) (N := 3) hx hb hts hin1 hown hK hR rfl 2 (by decide) (hts (.fieldLink RX2 23 "QuorumLock$Row" "length" "I") (by decide +kernel)) rfl dX2_isPressed_4 ?_
  refine lv_if_le (tgt := 44) hx hb dX2_isPressed_7 (by decide) (fun c_7 => ?_) (fun c_7 => ?_)
  · have hz0 : (0 : Int32) = if q_press r u b = true then 1 else 0 := by
      cases r with
      | nil => rfl
      | cons x r => exact absurd c_7 (nI_nle (by simp) (by simp at hrq ⊢; omega))
    refine lv_iconst (v := 0) hx hb dX2_isPressed_44 (by decide) ?_
    exact q_zret hx hb hr hlocks rfl hS (by first | exact hz1 | exact hz0 | (rw [hz9]; rfl)) dX2_isPressed_45
  · obtain ⟨x, r9, er⟩ : ∃ x r9, r = x :: r9 := by
      cases r with
      | nil => exact absurd (by decide) c_7
      | cons x r9 => exact ⟨x, r9, rfl⟩
    refine lv_aload_n hx hb dX2_isPressed_10 rfl (lv_at hl 0 rfl) ?_
    refine qr_get (ci := 2) (C := RX2) (T := TX2) (N := 4) hx hb hts hin2 hown hK hP rfl 0 (by decide) (hts (.fieldLink RX2 14 "QuorumLock$Voter" "row" "LQuorumLock$Row;") (by decide +kernel)) rfl dX2_isPressed_11 ?_
    refine lv_iconst (v := 0) hx hb dX2_isPressed_14 (by decide) ?_
    refine qc_i (va_runV (As := [.int 0]) (rest := []) ⟨hx, hb, hml, hown, hts⟩ (c_X1_nodeAt l dd ga q r0 r1 r2 r hq hrq 0) (cwV 1 hts gX2_isPressed_X1_nodeAt rfl rfl rfl (by decide +kernel) ⟨Nat.le_of_ble_eq_true rfl, Nat.le_of_ble_eq_true rfl⟩) (qpreV hK (⟨f, g, hR, hF, hG, hJ⟩) hR rfl) rfl rfl hl.1 rfl (lv_room (Nat.le_of_ble_eq_true rfl)) dX2_isPressed_15 ⟨Nat.zero_le _, Nat.zero_le _⟩) hS (fun q h => h) (fun v15 H locs hp9 hz9 ho9 hS => ?_)
    have e15 : v15 = _ := hp9
    have hP := qa_kept hP (ho9 _ (fun h => h))
    have hR := qa_kept hR (ho9 _ (fun h => h))
    have hF := qa_kept hF (ho9 _ (fun h => h))
    have hG := qa_kept hG (ho9 _ (fun h => h))
    refine lv_aload_n hx hb dX2_isPressed_18 rfl (lv_at hl 0 rfl) ?_
    refine qr_get (ci := 2) (C := RX2) (T := TX2) (N := 4) hx hb hts hin2 hown hK hP rfl 0 (by decide) (hts (.fieldLink RX2 14 "QuorumLock$Voter" "row" "LQuorumLock$Row;") (by decide +kernel)) rfl dX2_isPressed_19 ?_
    refine lv_iconst (v := 0) hx hb dX2_isPressed_22 (by decide) ?_
    refine qc_i (va_runV (As := [.int 0]) (rest := [.int v15]) ⟨hx, hb, hml, hown, hts⟩ (c_X1_timeAt l dd ga q r0 r1 r2 r hq hrq 0) (cwV 1 hts gX2_isPressed_X1_timeAt rfl rfl rfl (by decide +kernel) ⟨Nat.le_of_ble_eq_true rfl, Nat.le_of_ble_eq_true rfl⟩) (qpreV hK (⟨f, g, hR, hF, hG, hJ⟩) hR rfl) rfl rfl hl.1 rfl (lv_room (Nat.le_of_ble_eq_true rfl)) dX2_isPressed_23 ⟨Nat.zero_le _, Nat.zero_le _⟩) hS (fun q h => h) (fun v23 H locs hp9 hz9 ho9 hS => ?_)
    have e23 : v23 = _ := hp9
    have hP := qa_kept hP (ho9 _ (fun h => h))
    have hR := qa_kept hR (ho9 _ (fun h => h))
    have hF := qa_kept hF (ho9 _ (fun h => h))
    have hG := qa_kept hG (ho9 _ (fun h => h))
    refine lv_aload_n hx hb dX2_isPressed_26 rfl (lv_at hl 0 rfl) ?_
    refine qr_get (ci := 2) (C := RX2) (T := TX2) (N := 4) hx hb hts hin2 hown hK hP rfl 1 (by decide) (hts (.fieldLink RX2 27 "QuorumLock$Voter" "lentTo" "I") (by decide +kernel)) rfl dX2_isPressed_27 ?_
    refine lv_aload_n hx hb dX2_isPressed_30 rfl (lv_at hl 0 rfl) ?_
    refine qr_get (ci := 2) (C := RX2) (T := TX2) (N := 4) hx hb hts hin2 hown hK hP rfl 2 (by decide) (hts (.fieldLink RX2 30 "QuorumLock$Voter" "lentTime" "I") (by decide +kernel)) rfl dX2_isPressed_31 ?_
    refine qc_i (va_runSN (As := [.int v15, .int v23, .int (nI b), .int u]) (rest := []) (host := "QuorumLock") ⟨hx, hb, hml, hown, hts⟩ (c_X4_isBefore l dd ga v15 v23 (nI b) u) ⟨va_cnB 4 hts gX2_isPressed_X4_isBefore_n44 rfl rfl rfl hK.2.2.1 (hts (.initialized RX4) (by decide +kernel)) (by decide +kernel) ⟨Nat.le_of_ble_eq_true rfl, Nat.le_of_ble_eq_true rfl⟩, hts (.static yX4_isBefore) (by decide +kernel), trivial⟩ (qpreS hK trivial) rfl rfl hl.1 rfl (lv_room (Nat.le_of_ble_eq_true rfl)) dX2_isPressed_34 ⟨Nat.zero_le _, Nat.zero_le _⟩) hS (fun q h => h) (fun v34 H locs hp9 hz9 ho9 hS => ?_)
    have e34 : v34 = _ := hp9
    have hP := qa_kept hP (ho9 _ (fun h => h))
    have hR := qa_kept hR (ho9 _ (fun h => h))
    have hF := qa_kept hF (ho9 _ (fun h => h))
    have hG := qa_kept hG (ho9 _ (fun h => h))
    have h0c : ¬ ((0 : Int32) < 0 ∨ nI r.length ≤ 0) := fun h => h.elim (fun h => absurd h (by decide)) c_7
    rw [q_at, if_neg h0c] at e15
    rw [q_att, if_neg h0c] at e23
    rw [e15, e23] at e34
    have hx31 := hr31 x (by rw [er]; exact List.mem_cons_self)
    have e35 : (r.getD (0 : Int32).toNatClampNeg (0, 0)) = x := by rw [er]; rfl
    rw [e35] at e34
    have e36 : v34 = if q_press r u b = true then 1 else 0 := by
      rw [e34, er]
      show _ = if q_bef x.2 x.1 u b = true then 1 else 0
      by_cases h : q_bef x.2 x.1 u b = true
      · rw [if_pos ((q_befI hx31 hb31).mpr h), if_pos h]
      · rw [if_neg (fun h2 => h ((q_befI hx31 hb31).mp h2)), if_neg h]
    refine lv_if_eq (tgt := 44) hx hb dX2_isPressed_37 (by decide) (fun c_37 => ?_) (fun c_37 => ?_)
    · have hz0 : (0 : Int32) = if q_press r u b = true then 1 else 0 := by rw [← e36, c_37]
      refine lv_iconst (v := 0) hx hb dX2_isPressed_44 (by decide) ?_
      exact q_zret hx hb hr hlocks rfl hS (by first | exact hz1 | exact hz0 | (rw [hz9]; rfl)) dX2_isPressed_45
    · have hz1 : (1 : Int32) = if q_press r u b = true then 1 else 0 := by
        by_cases h : q_press r u b = true
        · rw [if_pos h]
        · rw [if_neg h] at e36; exact absurd e36 c_37
      refine lv_iconst (v := 1) hx hb dX2_isPressed_40 (by decide) ?_
      refine lv_goto (tgt := 45) hx hb dX2_isPressed_41 (by decide) ?_
      exact q_zret hx hb hr hlocks rfl hS (by first | exact hz1 | exact hz0 | (rw [hz9]; rfl)) dX2_isPressed_45
