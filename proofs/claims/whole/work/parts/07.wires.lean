/-! numbers of wires -/
theorem q_wlt {n f t : Nat} (hf : f < n) (ht : t < n) : f * n + t < n * n := by
  have : (f + 1) * n ≤ n * n := Nat.mul_le_mul_right n hf
  rw [Nat.add_mul] at this
  omega
theorem q_wdiv {n f t : Nat} (ht : t < n) : (f * n + t) / n = f := by
  rw [Nat.mul_comm, Nat.mul_add_div (by omega), Nat.div_eq_of_lt ht, Nat.add_zero]
theorem q_wmod {n f t : Nat} (ht : t < n) : (f * n + t) % n = t := by
  rw [Nat.mul_comm, Nat.mul_add_mod, Nat.mod_eq_of_lt ht]
theorem q_winj {n f t f' t' : Nat} (ht : t < n) (ht' : t' < n) (h : f * n + t = f' * n + t') : f = f' ∧ t = t' := by
  have h1 := q_wdiv (f := f) ht
  have h2 := q_wmod (f := f) ht
  rw [h, q_wdiv ht'] at h1
  rw [h, q_wmod ht'] at h2
  exact ⟨h1.symm, h2.symm⟩
theorem q_n2 {n : Nat} (h : n ≤ 16) : n * n ≤ 256 := Nat.mul_le_mul h h
theorem q_sum_le (w : Nat → Nat → List qM) (f : Nat) (h : ∀ t, (w f t).length ≤ 8) : ∀ m : Nat, q_sum w f m ≤ 8 * m
  | 0 => Nat.le_refl 0
  | m + 1 => by
    have := q_sum_le w f h m
    have := h m
    unfold q_sum
    omega
theorem q_sum_q2 (w : Nat → Nat → List qM) (f t g : Nat) (v : List qM) : ∀ m : Nat, q_sum (q2 w f t v) g m + (if g = f ∧ t < m then (w f t).length else 0) = q_sum w g m + (if g = f ∧ t < m then v.length else 0)
  | 0 => by simp [q_sum]
  | m + 1 => by
    have ih := q_sum_q2 w f t g v m
    unfold q_sum
    by_cases hg : g = f
    · subst hg
      by_cases ht : m = t
      · subst ht
        have h1 : ¬ (m < m) := Nat.lt_irrefl m
        simp only [h1, and_false, if_false, Nat.lt_succ_self, and_self, if_true] at ih ⊢
        rw [q2_s]
        omega
      · rw [q2_n (by omega)]
        by_cases hm : t < m
        · simp only [hm, Nat.lt_succ_of_lt hm, and_self, if_true] at ih ⊢
          omega
        · have h2 : ¬ t < m + 1 := by omega
          simp only [hm, h2, and_false, if_false] at ih ⊢
          omega
    · rw [q2_n (by simp [hg])]
      simp only [hg, false_and, if_false] at ih ⊢
      omega
theorem q_sum_z {w : Nat → Nat → List qM} {f : Nat} : ∀ {m : Nat}, q_sum w f m = 0 → ∀ t, t < m → w f t = []
  | 0, _, t, h => absurd h (Nat.not_lt_zero t)
  | m + 1, h, t, ht => by
    unfold q_sum at h
    rcases Nat.lt_or_ge t m with h1 | h1
    · exact q_sum_z (m := m) (by omega) t h1
    · have : t = m := by omega
      subst this
      exact List.length_eq_zero_iff.mp (by omega)
theorem q_sum_p {w : Nat → Nat → List qM} {f t : Nat} (h : w f t ≠ []) : ∀ {m : Nat}, t < m → 0 < q_sum w f m
  | 0, ht => absurd ht (Nat.not_lt_zero t)
  | m + 1, ht => by
    unfold q_sum
    rcases Nat.lt_or_ge t m with h1 | h1
    · have := q_sum_p h (m := m) h1
      omega
    · have : t = m := by omega
      subst this
      have := List.length_pos_iff.mpr h
      omega
set_option maxHeartbeats 4000000 in
set_option maxRecDepth 100000 in
/-- X3_wireOf -/
theorem c_X3_wireOf (l : Launch) (dd : va_G) (ga : Nat → ClassId) (n h0 h1 h2 h3 h4 : Nat) (f t : Nat) : Met l yX3_wireOf wsX3_wireOf ({ frames := 0, cells := 0, slots := 0, locals := 0 }) (qPc dd ga [.ref h0, .int (nI f), .int (nI t)] (fun H => va_at dd vwCl (h0, .inr (3, [.int (nI n), .ref h1, .ref h2, .ref h3, .ref h4])) H)) (qQi (fun v _ => v = nI (f * n + t)) (fun _ => False)) 0 0 (fun _ => False) := by
  refine Met.ofW (cc := cX3_wireOf) (maxL := 3) (ret := (some .int)) (by decide) rfl ?_
  intro p e s m args below meth c s₁ B hml hv
  obtain ⟨rfl, hP, hK⟩ := hv
  have hx := B.exec
  have hb := B.bytes
  have hr := B.returns
  have hts := atoms_spec (ws := wsX3_wireOf) B.pre
  have hown : s.vm.findClass RX3 = some m.cls := findClass_of_methodNamed B.named
  have hlocks := B.notSynchronized
  have hS : qS (fun _ => False) s.heap s.heap [] := qS.rf
  have hl := lv_entry ([.ref h0, .int (nI f), .int (nI t)]) (n := 3) (Nat.le_of_ble_eq_true rfl)
  rw [lg_entry_eq]
  generalize (lg_sl ([.ref h0, .int (nI f), .int (nI t)]) ++ List.replicate (3 - (lg_sl ([.ref h0, .int (nI f), .int (nI t)])).length) Slot.unset).toArray = ls at hl ⊢
  have hin3 : ∀ w ∈ wsX30, w ∈ wsX3_wireOf := by decide +kernel
  refine lv_iload_n hx hb dX3_wireOf_0 rfl (lv_at hl 1 rfl) ?_
  refine lv_aload_n hx hb dX3_wireOf_1 rfl (lv_at hl 0 rfl) ?_
  refine qr_get (ci := 3) (C := RX3) (T := TX3) (N := 5) hx hb hts hin3 hown hK hP rfl 0 (by decide) (hts (.fieldLink RX3 9 "QuorumLock$Wires" "ends" "I") (by decide +kernel)) rfl dX3_wireOf_2 ?_
  refine lv_imul hx hb dX3_wireOf_5 ?_
  refine q_ti (y := nI (f * n)) (pk_mul _ _) ?_
  refine lv_iload_n hx hb dX3_wireOf_6 rfl (lv_at hl 2 rfl) ?_
  refine lv_iadd hx hb dX3_wireOf_7 ?_
  refine q_ti (y := nI (f * n + t)) (nI_add _ _) ?_
  exact q_iret hx hb hr hlocks hS rfl dX3_wireOf_8
set_option maxHeartbeats 4000000 in
set_option maxRecDepth 100000 in
/-- X3_slotOf -/
theorem c_X3_slotOf (l : Launch) (dd : va_G) (ga : Nat → ClassId) (n h0 h1 h2 h3 h4 : Nat) (O : Nat → Int32) (w9 m9 o : Nat) (hn : n ≤ 16) (hw : w9 < n * n) (ho : o < 8) (hm : m9 ≤ 8) (eo : O w9 = nI o) : Met l yX3_slotOf wsX3_slotOf ({ frames := 0, cells := 0, slots := 0, locals := 0 }) (qPc dd ga [.ref h0, .int (nI w9), .int (nI m9)] (fun H => va_at dd vwCl (h0, .inr (3, [.int (nI n), .ref h1, .ref h2, .ref h3, .ref h4])) H ∧ va_at dd vwCl (h2, .inl (ga 0, n * n, .inl O)) H)) (qQi (fun v _ => v = nI ((w9 * 8 + (o + m9) % 8) * 3)) (fun _ => False)) 0 0 (fun _ => False) := by
  refine Met.ofW (cc := cX3_slotOf) (maxL := 3) (ret := (some .int)) (by decide) rfl ?_
  intro p e s m args below meth c s₁ B hml hv
  obtain ⟨rfl, ⟨hP, hPo⟩, hK⟩ := hv
  have hx := B.exec
  have hb := B.bytes
  have hr := B.returns
  have hts := atoms_spec (ws := wsX3_slotOf) B.pre
  have hown : s.vm.findClass RX3 = some m.cls := findClass_of_methodNamed B.named
  have hlocks := B.notSynchronized
  have hS : qS (fun _ => False) s.heap s.heap [] := qS.rf
  have hl := lv_entry ([.ref h0, .int (nI w9), .int (nI m9)]) (n := 3) (Nat.le_of_ble_eq_true rfl)
  rw [lg_entry_eq]
  generalize (lg_sl ([.ref h0, .int (nI w9), .int (nI m9)]) ++ List.replicate (3 - (lg_sl ([.ref h0, .int (nI w9), .int (nI m9)])).length) Slot.unset).toArray = ls at hl ⊢
  have hin3 : ∀ w ∈ wsX30, w ∈ wsX3_slotOf := by decide +kernel
  have hn2 := q_n2 hn
  refine lv_iload_n hx hb dX3_slotOf_0 rfl (lv_at hl 1 rfl) ?_
  refine lv_bipush (v := nI 8) hx hb dX3_slotOf_1 (by decide) ?_
  refine lv_imul hx hb dX3_slotOf_3 ?_
  refine q_ti (y := nI (w9 * 8)) (pk_mul _ _) ?_
  refine lv_aload_n hx hb dX3_slotOf_4 rfl (lv_at hl 0 rfl) ?_
  refine qr_get (ci := 3) (C := RX3) (T := TX3) (N := 5) hx hb hts hin3 hown hK hP rfl 2 (by decide) (hts (.fieldLink RX3 19 "QuorumLock$Wires" "oldest" "[I") (by decide +kernel)) rfl dX3_slotOf_5 ?_
  refine lv_iload_n hx hb dX3_slotOf_8 rfl (lv_at hl 1 rfl) ?_
  refine qr_iald (v := (nI o)) hx hb hK hPo w9 (by omega) (by omega) rfl eo dX3_slotOf_9 ?_
  refine lv_iload_n hx hb dX3_slotOf_10 rfl (lv_at hl 2 rfl) ?_
  refine lv_iadd hx hb dX3_slotOf_11 ?_
  refine q_ti (y := nI (o + m9)) (nI_add _ _) ?_
  refine lv_bipush (v := nI 8) hx hb dX3_slotOf_12 (by decide) ?_
  refine lv_irem hx hb dX3_slotOf_14 (by decide) ?_
  refine q_ti (y := nI ((o + m9) % 8)) (pk_rem (by omega) (by decide) (by decide)) ?_
  refine lv_iadd hx hb dX3_slotOf_15 ?_
  refine q_ti (y := nI (w9 * 8 + (o + m9) % 8)) (nI_add _ _) ?_
  refine lv_iconst (v := nI 3) hx hb dX3_slotOf_16 (by decide) ?_
  refine lv_imul hx hb dX3_slotOf_17 ?_
  refine q_ti (y := nI ((w9 * 8 + (o + m9) % 8) * 3)) (pk_mul _ _) ?_
  exact q_iret hx hb hr hlocks hS rfl dX3_slotOf_18
set_option maxHeartbeats 4000000 in
set_option maxRecDepth 100000 in
/-- X3_count -/
theorem c_X3_count (l : Launch) (dd : va_G) (ga : Nat → ClassId) (n h0 h1 h2 h3 h4 : Nat) (w : Nat → Nat → List qM) (f t : Nat) (hn : n ≤ 16) (hf : f < n) (ht : t < n) : Met l yX3_count wsX3_count ({ frames := 1, cells := 0, slots := 0, locals := 22 }) (qPc dd ga [.ref h0, .int (nI f), .int (nI t)] (fun H => qWir dd ga n h0 h1 h2 h3 h4 w H)) (qQi (fun v _ => v = nI (w f t).length) (fun _ => False)) 0 0 (fun _ => False) := by
  refine Met.ofW (cc := cX3_count) (maxL := 3) (ret := (some .int)) (by decide) rfl ?_
  intro p e s m args below meth c s₁ B hml hv
  obtain ⟨rfl, ⟨P, O, Y, F, hP, hPp, hPo, hPy, hPf, hJ, hJf⟩, hK⟩ := hv
  have hx := B.exec
  have hb := B.bytes
  have hr := B.returns
  have hts := atoms_spec (ws := wsX3_count) B.pre
  have hown : s.vm.findClass RX3 = some m.cls := findClass_of_methodNamed B.named
  have hlocks := B.notSynchronized
  have hS : qS (fun _ => False) s.heap s.heap [] := qS.rf
  have hl := lv_entry ([.ref h0, .int (nI f), .int (nI t)]) (n := 3) (Nat.le_of_ble_eq_true rfl)
  rw [lg_entry_eq]
  generalize (lg_sl ([.ref h0, .int (nI f), .int (nI t)]) ++ List.replicate (3 - (lg_sl ([.ref h0, .int (nI f), .int (nI t)])).length) Slot.unset).toArray = ls at hl ⊢
  have hin3 : ∀ w ∈ wsX30, w ∈ wsX3_count := by decide +kernel
  have hn2 := q_n2 hn
  have hwl := q_wlt hf ht
  obtain ⟨o, ho, eo, ey, hl8, hm⟩ := hJ f t hf ht
  refine lv_aload_n hx hb dX3_count_0 rfl (lv_at hl 0 rfl) ?_
  refine qr_get (ci := 3) (C := RX3) (T := TX3) (N := 5) hx hb hts hin3 hown hK hP rfl 3 (by decide) (hts (.fieldLink RX3 22 "QuorumLock$Wires" "lying" "[I") (by decide +kernel)) rfl dX3_count_1 ?_
  refine lv_aload_n hx hb dX3_count_4 rfl (lv_at hl 0 rfl) ?_
  refine lv_iload_n hx hb dX3_count_5 rfl (lv_at hl 1 rfl) ?_
  refine lv_iload_n hx hb dX3_count_6 rfl (lv_at hl 2 rfl) ?_
  refine qc_i (va_runV (As := [.int (nI f), .int (nI t)]) (rest := [.ref h3]) ⟨hx, hb, hml, hown, hts⟩ (c_X3_wireOf l dd ga n h0 h1 h2 h3 h4 f t) (cwV 2 hts gX3_count_X3_wireOf rfl rfl rfl (by decide +kernel) ⟨Nat.le_of_ble_eq_true rfl, Nat.le_of_ble_eq_true rfl⟩) (qpreV hK hP hP rfl) rfl rfl hl.1 rfl (lv_room (Nat.le_of_ble_eq_true rfl)) dX3_count_7 ⟨Nat.zero_le _, Nat.zero_le _⟩) hS (fun q h => h.elim) (fun v3 H locs hp9 hz9 ho9 hS => ?_)
  subst hp9
  have hP := qa_kept hP (ho9 _ (fun h => h))
  have hPp := qa_kept hPp (ho9 _ (fun h => h))
  have hPo := qa_kept hPo (ho9 _ (fun h => h))
  have hPy := qa_kept hPy (ho9 _ (fun h => h))
  have hPf := qa_kept hPf (ho9 _ (fun h => h))
  refine qr_iald (v := (nI (w f t).length)) hx hb hK hPy (f * n + t) (by omega) (by omega) rfl ey dX3_count_10 ?_
  exact q_iret hx hb hr hlocks hS rfl dX3_count_11
theorem q_part_n {w : List qM} {m what : Int32} (h : m < 0 ∨ nI w.length ≤ m) : q_part w m what = -1 := by unfold q_part; rw [if_pos h]
theorem q_part_w {w : List qM} {m what : Int32} (h : what < 0 ∨ ¬ what < 3) : q_part w m what = -1 := by
  unfold q_part
  split
  · rfl
  · rw [if_neg, if_neg, if_neg]
    · rintro rfl; exact absurd h (by decide)
    · rintro rfl; exact absurd h (by decide)
    · rintro rfl; exact absurd h (by decide)
set_option maxHeartbeats 4000000 in
set_option maxRecDepth 100000 in
/-- X3_part -/
theorem c_X3_part (l : Launch) (dd : va_G) (ga : Nat → ClassId) (n h0 h1 h2 h3 h4 : Nat) (w : Nat → Nat → List qM) (f t : Nat) (hn : n ≤ 16) (hf : f < n) (ht : t < n) (x z : Int32) : Met l yX3_part wsX3_part ({ frames := 1, cells := 0, slots := 0, locals := 22 }) (qPc dd ga [.ref h0, .int (nI f), .int (nI t), .int x, .int z] (fun H => qWir dd ga n h0 h1 h2 h3 h4 w H)) (qQi (fun v _ => v = q_part (w f t) x z) (fun _ => False)) 0 0 (fun _ => False) := by
  refine Met.ofW (cc := cX3_part) (maxL := 6) (ret := (some .int)) (by decide) rfl ?_
  intro p e s m args below meth c s₁ B hml hv
  obtain ⟨rfl, ⟨P, O, Y, F, hP, hPp, hPo, hPy, hPf, hJ, hJf⟩, hK⟩ := hv
  have hx := B.exec
  have hb := B.bytes
  have hr := B.returns
  have hts := atoms_spec (ws := wsX3_part) B.pre
  have hown : s.vm.findClass RX3 = some m.cls := findClass_of_methodNamed B.named
  have hlocks := B.notSynchronized
  have hS : qS (fun _ => False) s.heap s.heap [] := qS.rf
  have hl := lv_entry ([.ref h0, .int (nI f), .int (nI t), .int x, .int z]) (n := 6) (Nat.le_of_ble_eq_true rfl)
  rw [lg_entry_eq]
  generalize (lg_sl ([.ref h0, .int (nI f), .int (nI t), .int x, .int z]) ++ List.replicate (6 - (lg_sl ([.ref h0, .int (nI f), .int (nI t), .int x, .int z])).length) Slot.unset).toArray = ls at hl ⊢
  have hin3 : ∀ w ∈ wsX30, w ∈ wsX3_part := by decide +kernel
  have hn2 := q_n2 hn
  have hwl := q_wlt hf ht
  obtain ⟨o, ho, eo, ey, hl8, hm⟩ := hJ f t hf ht
  refine lv_aload_n hx hb dX3_part_0 rfl (lv_at hl 0 rfl) ?_
  refine lv_iload_n hx hb dX3_part_1 rfl (lv_at hl 1 rfl) ?_
  refine lv_iload_n hx hb dX3_part_2 rfl (lv_at hl 2 rfl) ?_
  refine qc_i (va_runV (As := [.int (nI f), .int (nI t)]) (rest := []) ⟨hx, hb, hml, hown, hts⟩ (c_X3_wireOf l dd ga n h0 h1 h2 h3 h4 f t) (cwV 2 hts gX3_part_X3_wireOf rfl rfl rfl (by decide +kernel) ⟨Nat.le_of_ble_eq_true rfl, Nat.le_of_ble_eq_true rfl⟩) (qpreV hK hP hP rfl) rfl rfl hl.1 rfl (lv_room (Nat.le_of_ble_eq_true rfl)) dX3_part_3 ⟨Nat.zero_le _, Nat.zero_le _⟩) hS (fun q h => h.elim) (fun v3 H locs hp9 hz9 ho9 hS => ?_)
  subst hp9
  have hP := qa_kept hP (ho9 _ (fun h => h))
  have hPp := qa_kept hPp (ho9 _ (fun h => h))
  have hPo := qa_kept hPo (ho9 _ (fun h => h))
  have hPy := qa_kept hPy (ho9 _ (fun h => h))
  have hPf := qa_kept hPf (ho9 _ (fun h => h))
  refine lv_istore (lv' := [(5, .int (nI (f * n + t))), (0, .ref h0), (1, .int (nI f)), (2, .int (nI t)), (3, .int x), (4, .int z)]) hx hb dX3_part_6 hl (by decide) rfl (fun ls hl => ?_)
  refine lv_iload_n hx hb dX3_part_8 rfl (lv_at hl 4 rfl) ?_
  refine lv_if_lt (tgt := 34) hx hb dX3_part_9 (by decide) (fun c_9 => ?_) (fun c_9 => ?_)
  · refine lv_iconst (v := (-1)) hx hb dX3_part_34 (by decide) ?_
    exact q_iret hx hb hr hlocks hS (by first | exact (q_part_n (by first | exact Or.inl c_9 | exact Or.inr c_20)).symm | exact (q_part_w (by first | exact Or.inl c_25 | exact Or.inr c_31)).symm) dX3_part_35
  · refine lv_iload_n hx hb dX3_part_12 rfl (lv_at hl 4 rfl) ?_
    refine lv_aload_n hx hb dX3_part_13 rfl (lv_at hl 1 rfl) ?_
    refine qr_get (ci := 3) (C := RX3) (T := TX3) (N := 5) hx hb hts hin3 hown hK hP rfl 3 (by decide) (hts (.fieldLink RX3 22 "QuorumLock$Wires" "lying" "[I") (by decide +kernel)) rfl dX3_part_14 ?_
    refine lv_iload hx hb dX3_part_17 (lv_at hl 0 rfl) ?_
    refine qr_iald (v := (nI (w f t).length)) hx hb hK hPy (f * n + t) (by omega) (by omega) rfl ey dX3_part_19 ?_
    refine lv_icmp_ge (tgt := 34) hx hb dX3_part_20 (by decide) (fun c_20 => ?_) (fun c_20 => ?_)
    · refine lv_iconst (v := (-1)) hx hb dX3_part_34 (by decide) ?_
      exact q_iret hx hb hr hlocks hS (by first | exact (q_part_n (by first | exact Or.inl c_9 | exact Or.inr c_20)).symm | exact (q_part_w (by first | exact Or.inl c_25 | exact Or.inr c_31)).symm) dX3_part_35
    · refine lv_iload hx hb dX3_part_23 (lv_at hl 5 rfl) ?_
      refine lv_if_lt (tgt := 34) hx hb dX3_part_25 (by decide) (fun c_25 => ?_) (fun c_25 => ?_)
      · refine lv_iconst (v := (-1)) hx hb dX3_part_34 (by decide) ?_
        exact q_iret hx hb hr hlocks hS (by first | exact (q_part_n (by first | exact Or.inl c_9 | exact Or.inr c_20)).symm | exact (q_part_w (by first | exact Or.inl c_25 | exact Or.inr c_31)).symm) dX3_part_35
      · refine lv_iload hx hb dX3_part_28 (lv_at hl 5 rfl) ?_
        refine lv_iconst (v := 3) hx hb dX3_part_30 (by decide) ?_
        refine lv_icmp_lt (tgt := 36) hx hb dX3_part_31 (by decide) (fun c_31 => ?_) (fun c_31 => ?_)
        · refine lv_aload_n hx hb dX3_part_36 rfl (lv_at hl 1 rfl) ?_
          refine qr_get (ci := 3) (C := RX3) (T := TX3) (N := 5) hx hb hts hin3 hown hK hP rfl 1 (by decide) (hts (.fieldLink RX3 15 "QuorumLock$Wires" "parts" "[I") (by decide +kernel)) rfl dX3_part_37 ?_
          refine lv_aload_n hx hb dX3_part_40 rfl (lv_at hl 1 rfl) ?_
          refine lv_iload hx hb dX3_part_41 (lv_at hl 0 rfl) ?_
          refine lv_iload_n hx hb dX3_part_43 rfl (lv_at hl 4 rfl) ?_
          obtain ⟨j, hj, ej⟩ : ∃ j : Nat, j < (w f t).length ∧ x = nI j := by
            rcases pk_ix x (n := (w f t).length) (by omega) with h | h | h
            · exact absurd h c_9
            · exact absurd h c_20
            · exact h
          obtain ⟨j2, hj2, ej2⟩ : ∃ j : Nat, j < 3 ∧ z = nI j := by
            rcases pk_ix z (n := 3) (by omega) with h | h | h
            · exact absurd h c_25
            · exact absurd c_31 (Int32.not_lt.mpr h)
            · exact h
          subst ej ej2
          refine qc_i (va_runV (As := [.int (nI (f * n + t)), .int (nI j)]) (rest := [.ref h1]) ⟨hx, hb, hml, hown, hts⟩ (c_X3_slotOf l dd ga n h0 h1 h2 h3 h4 O (f * n + t) j o hn hwl ho (by omega) eo) (cwV 2 hts gX3_part_X3_slotOf rfl rfl rfl (by decide +kernel) ⟨Nat.le_of_ble_eq_true rfl, Nat.le_of_ble_eq_true rfl⟩) (qpreV hK (⟨hP, hPo⟩) hP rfl) rfl rfl hl.1 rfl (lv_room (Nat.le_of_ble_eq_true rfl)) dX3_part_44 ⟨Nat.zero_le _, Nat.zero_le _⟩) hS (fun q h => h.elim) (fun v44 H locs hp9 hz9 ho9 hS => ?_)
          subst hp9
          have hP := qa_kept hP (ho9 _ (fun h => h))
          have hPp := qa_kept hPp (ho9 _ (fun h => h))
          have hPo := qa_kept hPo (ho9 _ (fun h => h))
          have hPy := qa_kept hPy (ho9 _ (fun h => h))
          have hPf := qa_kept hPf (ho9 _ (fun h => h))
          refine lv_iload hx hb dX3_part_47 (lv_at hl 5 rfl) ?_
          refine lv_iadd hx hb dX3_part_49 ?_
          refine q_ti (y := nI (((f * n + t) * 8 + (o + j) % 8) * 3 + j2)) (nI_add _ _) ?_
          have hm3 := hm j _ (q_gd (d := (0, 0, 0)) hj)
          have hfin : P (((f * n + t) * 8 + (o + j) % 8) * 3 + j2) = q_part (w f t) (nI j) (nI j2) := by
            unfold q_part
            rw [if_neg (fun h => h.elim c_9 c_20), nI_clamp (by omega)]
            rcases (show j2 = 0 ∨ j2 = 1 ∨ j2 = 2 by omega) with h | h | h <;> subst h
            · rw [if_pos (by decide)]; exact hm3.1
            · rw [if_neg (by decide), if_pos (by decide)]; exact hm3.2.1
            · rw [if_neg (by decide), if_neg (by decide), if_pos (by decide)]; exact hm3.2.2
          refine qr_iald (v := (P (((f * n + t) * 8 + (o + j) % 8) * 3 + j2))) hx hb hK hPp (((f * n + t) * 8 + (o + j) % 8) * 3 + j2) (by omega) (by omega) rfl rfl dX3_part_50 ?_
          exact q_iret hx hb hr hlocks hS hfin dX3_part_51
        · refine lv_iconst (v := (-1)) hx hb dX3_part_34 (by decide) ?_
          exact q_iret hx hb hr hlocks hS (by first | exact (q_part_n (by first | exact Or.inl c_9 | exact Or.inr c_20)).symm | exact (q_part_w (by first | exact Or.inl c_25 | exact Or.inr c_31)).symm) dX3_part_35
set_option maxHeartbeats 4000000 in
set_option maxRecDepth 100000 in
/-- X3_add -/
theorem c_X3_add (l : Launch) (dd : va_G) (ga : Nat → ClassId) (n h0 h1 h2 h3 h4 : Nat) (d01 : h0 ≠ h1) (d02 : h0 ≠ h2) (d03 : h0 ≠ h3) (d04 : h0 ≠ h4) (d12 : h1 ≠ h2) (d13 : h1 ≠ h3) (d14 : h1 ≠ h4) (d23 : h2 ≠ h3) (d24 : h2 ≠ h4) (d34 : h3 ≠ h4) (w : Nat → Nat → List qM) (f t : Nat) (hn : n ≤ 16) (hf : f < n) (ht : t < n) (x y z : Int32) (hl9 : (w f t).length < 8) : Met l yX3_add wsX3_add ({ frames := 1, cells := 0, slots := 0, locals := 22 }) (qPc dd ga [.ref h0, .int (nI f), .int (nI t), .int x, .int y, .int z] (fun H => qWir dd ga n h0 h1 h2 h3 h4 w H)) (qQv (fun H => qWir dd ga n h0 h1 h2 h3 h4 (q2 w f t (w f t ++ [(x, y, z)])) H) (fun q => q = h0 ∨ q = h1 ∨ q = h2 ∨ q = h3 ∨ q = h4)) 0 0 (fun q => q = h0 ∨ q = h1 ∨ q = h2 ∨ q = h3 ∨ q = h4) := by
  refine Met.ofW (cc := cX3_add) (maxL := 8) (ret := none) (by decide) rfl ?_
  intro p e s m args below meth c s₁ B hml hv
  obtain ⟨rfl, ⟨P, O, Y, F, hP, hPp, hPo, hPy, hPf, hJ, hJf⟩, hK⟩ := hv
  have hx := B.exec
  have hb := B.bytes
  have hr := B.returns
  have hts := atoms_spec (ws := wsX3_add) B.pre
  have hown : s.vm.findClass RX3 = some m.cls := findClass_of_methodNamed B.named
  have hlocks := B.notSynchronized
  have hS : qS (fun q => q = h0 ∨ q = h1 ∨ q = h2 ∨ q = h3 ∨ q = h4) s.heap s.heap [] := qS.rf
  have hl := lv_entry ([.ref h0, .int (nI f), .int (nI t), .int x, .int y, .int z]) (n := 8) (Nat.le_of_ble_eq_true rfl)
  rw [lg_entry_eq]
  generalize (lg_sl ([.ref h0, .int (nI f), .int (nI t), .int x, .int y, .int z]) ++ List.replicate (8 - (lg_sl ([.ref h0, .int (nI f), .int (nI t), .int x, .int y, .int z])).length) Slot.unset).toArray = ls at hl ⊢
  have hin3 : ∀ w ∈ wsX30, w ∈ wsX3_add := by decide +kernel
  have hn2 := q_n2 hn
  have hwl := q_wlt hf ht
  obtain ⟨o, ho, eo, ey, hl8, hm⟩ := hJ f t hf ht
  refine lv_aload_n hx hb dX3_add_0 rfl (lv_at hl 0 rfl) ?_
  refine lv_iload_n hx hb dX3_add_1 rfl (lv_at hl 1 rfl) ?_
  refine lv_iload_n hx hb dX3_add_2 rfl (lv_at hl 2 rfl) ?_
  refine qc_i (va_runV (As := [.int (nI f), .int (nI t)]) (rest := []) ⟨hx, hb, hml, hown, hts⟩ (c_X3_wireOf l dd ga n h0 h1 h2 h3 h4 f t) (cwV 2 hts gX3_add_X3_wireOf rfl rfl rfl (by decide +kernel) ⟨Nat.le_of_ble_eq_true rfl, Nat.le_of_ble_eq_true rfl⟩) (qpreV hK hP hP rfl) rfl rfl hl.1 rfl (lv_room (Nat.le_of_ble_eq_true rfl)) dX3_add_3 ⟨Nat.zero_le _, Nat.zero_le _⟩) hS (fun q h => h.elim) (fun v3 H locs hp9 hz9 ho9 hS => ?_)
  subst hp9
  have hP := qa_kept hP (ho9 _ (fun h => h))
  have hPp := qa_kept hPp (ho9 _ (fun h => h))
  have hPo := qa_kept hPo (ho9 _ (fun h => h))
  have hPy := qa_kept hPy (ho9 _ (fun h => h))
  have hPf := qa_kept hPf (ho9 _ (fun h => h))
  refine lv_istore (lv' := [(6, .int (nI (f * n + t))), (0, .ref h0), (1, .int (nI f)), (2, .int (nI t)), (3, .int x), (4, .int y), (5, .int z)]) hx hb dX3_add_6 hl (by decide) rfl (fun ls hl => ?_)
  refine lv_aload_n hx hb dX3_add_8 rfl (lv_at hl 1 rfl) ?_
  refine qr_get (ci := 3) (C := RX3) (T := TX3) (N := 5) hx hb hts hin3 hown hK hP rfl 3 (by decide) (hts (.fieldLink RX3 22 "QuorumLock$Wires" "lying" "[I") (by decide +kernel)) rfl dX3_add_9 ?_
  refine lv_iload hx hb dX3_add_12 (lv_at hl 0 rfl) ?_
  refine qr_iald (v := (nI (w f t).length)) hx hb hK hPy (f * n + t) (by omega) (by omega) rfl ey dX3_add_14 ?_
  refine lv_bipush (v := nI 8) hx hb dX3_add_15 (by decide) ?_
  refine lv_icmp_lt (tgt := 21) hx hb dX3_add_17 (by decide) (fun c_17 => ?_) (fun c_17 => absurd (nI_lt hl9 (by decide)) c_17)
  refine lv_aload_n hx hb dX3_add_21 rfl (lv_at hl 1 rfl) ?_
  refine lv_iload hx hb dX3_add_22 (lv_at hl 0 rfl) ?_
  refine lv_aload_n hx hb dX3_add_24 rfl (lv_at hl 1 rfl) ?_
  refine qr_get (ci := 3) (C := RX3) (T := TX3) (N := 5) hx hb hts hin3 hown hK hP rfl 3 (by decide) (hts (.fieldLink RX3 22 "QuorumLock$Wires" "lying" "[I") (by decide +kernel)) rfl dX3_add_25 ?_
  refine lv_iload hx hb dX3_add_28 (lv_at hl 0 rfl) ?_
  refine qr_iald (v := (nI (w f t).length)) hx hb hK hPy (f * n + t) (by omega) (by omega) rfl ey dX3_add_30 ?_
  refine qc_i (va_runV (As := [.int (nI (f * n + t)), .int (nI (w f t).length)]) (rest := []) ⟨hx, hb, hml, hown, hts⟩ (c_X3_slotOf l dd ga n h0 h1 h2 h3 h4 O (f * n + t) (w f t).length o hn hwl ho (by omega) eo) (cwV 2 hts gX3_add_X3_slotOf rfl rfl rfl (by decide +kernel) ⟨Nat.le_of_ble_eq_true rfl, Nat.le_of_ble_eq_true rfl⟩) (qpreV hK (⟨hP, hPo⟩) hP rfl) rfl rfl hl.1 rfl (lv_room (Nat.le_of_ble_eq_true rfl)) dX3_add_31 ⟨Nat.zero_le _, Nat.zero_le _⟩) hS (fun q h => h.elim) (fun v31 H locs hp9 hz9 ho9 hS => ?_)
  subst hp9
  have hP := qa_kept hP (ho9 _ (fun h => h))
  have hPp := qa_kept hPp (ho9 _ (fun h => h))
  have hPo := qa_kept hPo (ho9 _ (fun h => h))
  have hPy := qa_kept hPy (ho9 _ (fun h => h))
  have hPf := qa_kept hPf (ho9 _ (fun h => h))
  refine lv_istore (lv' := [(7, .int (nI (((f * n + t) * 8 + (o + (w f t).length) % 8) * 3))), (6, .int (nI (f * n + t))), (0, .ref h0), (1, .int (nI f)), (2, .int (nI t)), (3, .int x), (4, .int y), (5, .int z)]) hx hb dX3_add_34 hl (by decide) rfl (fun ls hl => ?_)
  refine lv_aload_n hx hb dX3_add_36 rfl (lv_at hl 2 rfl) ?_
  refine qr_get (ci := 3) (C := RX3) (T := TX3) (N := 5) hx hb hts hin3 hown hK hP rfl 1 (by decide) (hts (.fieldLink RX3 15 "QuorumLock$Wires" "parts" "[I") (by decide +kernel)) rfl dX3_add_37 ?_
  refine lv_iload hx hb dX3_add_40 (lv_at hl 0 rfl) ?_
  refine lv_iconst (v := nI 0) hx hb dX3_add_42 (by decide) ?_
  refine lv_iadd hx hb dX3_add_43 ?_
  refine q_ti (y := nI (((f * n + t) * 8 + (o + (w f t).length) % 8) * 3)) (nI_add _ 0) ?_
  refine lv_iload_n hx hb dX3_add_44 rfl (lv_at hl 5 rfl) ?_
  refine qr_iast hx hb hK hPp hS (Or.inr (Or.inl rfl)) (((f * n + t) * 8 + (o + (w f t).length) % 8) * 3) (by omega) (by omega) rfl dX3_add_45 (fun H locs hz9 ho9 hat9 hS => ?_)
  have hPp := hat9
  have hP := qa_kept hP (ho9 _ d01)
  have hPo := qa_kept hPo (ho9 _ d12.symm)
  have hPy := qa_kept hPy (ho9 _ d13.symm)
  have hPf := qa_kept hPf (ho9 _ d14.symm)
  refine lv_aload_n hx hb dX3_add_46 rfl (lv_at hl 2 rfl) ?_
  refine qr_get (ci := 3) (C := RX3) (T := TX3) (N := 5) hx hb hts hin3 hown hK hP rfl 1 (by decide) (hts (.fieldLink RX3 15 "QuorumLock$Wires" "parts" "[I") (by decide +kernel)) rfl dX3_add_47 ?_
  refine lv_iload hx hb dX3_add_50 (lv_at hl 0 rfl) ?_
  refine lv_iconst (v := nI 1) hx hb dX3_add_52 (by decide) ?_
  refine lv_iadd hx hb dX3_add_53 ?_
  refine q_ti (y := nI (((f * n + t) * 8 + (o + (w f t).length) % 8) * 3 + 1)) (nI_add _ _) ?_
  refine lv_iload hx hb dX3_add_54 (lv_at hl 6 rfl) ?_
  refine qr_iast hx hb hK hPp hS (Or.inr (Or.inl rfl)) (((f * n + t) * 8 + (o + (w f t).length) % 8) * 3 + 1) (by omega) (by omega) rfl dX3_add_56 (fun H locs hz9 ho9 hat9 hS => ?_)
  have hPp := hat9
  have hP := qa_kept hP (ho9 _ d01)
  have hPo := qa_kept hPo (ho9 _ d12.symm)
  have hPy := qa_kept hPy (ho9 _ d13.symm)
  have hPf := qa_kept hPf (ho9 _ d14.symm)
  refine lv_aload_n hx hb dX3_add_57 rfl (lv_at hl 2 rfl) ?_
  refine qr_get (ci := 3) (C := RX3) (T := TX3) (N := 5) hx hb hts hin3 hown hK hP rfl 1 (by decide) (hts (.fieldLink RX3 15 "QuorumLock$Wires" "parts" "[I") (by decide +kernel)) rfl dX3_add_58 ?_
  refine lv_iload hx hb dX3_add_61 (lv_at hl 0 rfl) ?_
  refine lv_iconst (v := nI 2) hx hb dX3_add_63 (by decide) ?_
  refine lv_iadd hx hb dX3_add_64 ?_
  refine q_ti (y := nI (((f * n + t) * 8 + (o + (w f t).length) % 8) * 3 + 2)) (nI_add _ _) ?_
  refine lv_iload hx hb dX3_add_65 (lv_at hl 7 rfl) ?_
  refine qr_iast hx hb hK hPp hS (Or.inr (Or.inl rfl)) (((f * n + t) * 8 + (o + (w f t).length) % 8) * 3 + 2) (by omega) (by omega) rfl dX3_add_67 (fun H locs hz9 ho9 hat9 hS => ?_)
  have hPp := hat9
  have hP := qa_kept hP (ho9 _ d01)
  have hPo := qa_kept hPo (ho9 _ d12.symm)
  have hPy := qa_kept hPy (ho9 _ d13.symm)
  have hPf := qa_kept hPf (ho9 _ d14.symm)
  refine lv_aload_n hx hb dX3_add_68 rfl (lv_at hl 2 rfl) ?_
  refine qr_get (ci := 3) (C := RX3) (T := TX3) (N := 5) hx hb hts hin3 hown hK hP rfl 3 (by decide) (hts (.fieldLink RX3 22 "QuorumLock$Wires" "lying" "[I") (by decide +kernel)) rfl dX3_add_69 ?_
  refine lv_iload hx hb dX3_add_72 (lv_at hl 1 rfl) ?_
  refine lv_dup2_11 hx hb dX3_add_74 rfl rfl ?_
  refine qr_iald (v := (nI (w f t).length)) hx hb hK hPy (f * n + t) (by omega) (by omega) rfl ey dX3_add_75 ?_
  refine lv_iconst (v := nI 1) hx hb dX3_add_76 (by decide) ?_
  refine lv_iadd hx hb dX3_add_77 ?_
  refine q_ti (y := nI ((w f t).length + 1)) (nI_add _ _) ?_
  refine qr_iast hx hb hK hPy hS (Or.inr (Or.inr (Or.inr (Or.inl rfl)))) (f * n + t) (by omega) (by omega) rfl dX3_add_78 (fun H locs hz9 ho9 hat9 hS => ?_)
  have hPy := hat9
  have hP := qa_kept hP (ho9 _ d03)
  have hPp := qa_kept hPp (ho9 _ d13)
  have hPo := qa_kept hPo (ho9 _ d23)
  have hPf := qa_kept hPf (ho9 _ d34.symm)
  refine lv_aload_n hx hb dX3_add_79 rfl (lv_at hl 2 rfl) ?_
  refine qr_get (ci := 3) (C := RX3) (T := TX3) (N := 5) hx hb hts hin3 hown hK hP rfl 4 (by decide) (hts (.fieldLink RX3 25 "QuorumLock$Wires" "lyingFrom" "[I") (by decide +kernel)) rfl dX3_add_80 ?_
  refine lv_iload_n hx hb dX3_add_83 rfl (lv_at hl 3 rfl) ?_
  refine lv_dup2_11 hx hb dX3_add_84 rfl rfl ?_
  refine qr_iald (v := (nI (q_sum w f n))) hx hb hK hPf f (by omega) (by omega) rfl (hJf f hf) dX3_add_85 ?_
  refine lv_iconst (v := nI 1) hx hb dX3_add_86 (by decide) ?_
  refine lv_iadd hx hb dX3_add_87 ?_
  refine q_ti (y := nI (q_sum w f n + 1)) (nI_add _ _) ?_
  refine qr_iast hx hb hK hPf hS (Or.inr (Or.inr (Or.inr (Or.inr rfl)))) f (by omega) (by omega) rfl dX3_add_88 (fun H locs hz9 ho9 hat9 hS => ?_)
  have hPf := hat9
  have hP := qa_kept hP (ho9 _ d04)
  have hPp := qa_kept hPp (ho9 _ d14)
  have hPo := qa_kept hPo (ho9 _ d24)
  have hPy := qa_kept hPy (ho9 _ d34)
  refine q_vret hx hb hr hlocks hS ⟨(upd (upd (upd P (((f * n + t) * 8 + (o + (w f t).length) % 8) * 3) x) (((f * n + t) * 8 + (o + (w f t).length) % 8) * 3 + 1) y) (((f * n + t) * 8 + (o + (w f t).length) % 8) * 3 + 2) z), O, (upd Y (f * n + t) (nI ((w f t).length + 1))), (upd F f (nI (q_sum w f n + 1))), hP, hPp, hPo, hPy, hPf, ?_, ?_⟩ dX3_add_89
  · intro f9 t9 hf9 ht9
    obtain ⟨o9, ho9, eo9, ey9, hl89, hm9⟩ := hJ f9 t9 hf9 ht9
    by_cases hft : f9 = f ∧ t9 = t
    · obtain ⟨rfl, rfl⟩ := hft
      have e9 : o9 = o := by
        have := eo9.symm.trans eo
        exact (nI_eq (by omega) (by omega)).mp this
      subst e9
      refine ⟨o9, ho, eo, ?_, ?_, fun m x9 hm0 => ?_⟩
      · rw [q2_s]; simp [upd, List.length_append]
      · rw [q2_s, List.length_append]; simp; omega
      · rw [q2_s] at hm0
        rcases Nat.lt_or_ge m (w f9 t9).length with h | h
        · rw [List.getElem?_append_left h] at hm0
          have h3 := hm m x9 hm0
          refine ⟨?_, ?_, ?_⟩ <;> simp only [upd] <;> rw [if_neg (by omega), if_neg (by omega), if_neg (by omega)]
          · exact h3.1
          · exact h3.2.1
          · exact h3.2.2
        · rw [List.getElem?_append_right h] at hm0
          have h4 := (List.getElem?_eq_some_iff.mp hm0).1
          have h5 : m = (w f9 t9).length := by simp at h4; omega
          subst h5
          rw [Nat.sub_self] at hm0
          have h6 : (x, y, z) = x9 := Option.some.inj hm0
          subst h6
          refine ⟨?_, ?_, ?_⟩ <;> simp [upd]
    · have hne : f9 * n + t9 ≠ f * n + t := fun h => hft (q_winj ht9 ht h)
      refine ⟨o9, ho9, eo9, ?_, ?_, fun m x9 hm0 => ?_⟩
      · rw [q2_n hft]; simp only [upd]; rw [if_neg hne]; exact ey9
      · rw [q2_n hft]; exact hl89
      · rw [q2_n hft] at hm0
        have h3 := hm9 m x9 hm0
        refine ⟨?_, ?_, ?_⟩ <;> simp only [upd] <;> rw [if_neg (by omega), if_neg (by omega), if_neg (by omega)]
        · exact h3.1
        · exact h3.2.1
        · exact h3.2.2
  · intro f9 hf9
    have h7 := q_sum_q2 w f t f9 (w f t ++ [(x, y, z)]) n
    simp only [upd]
    by_cases h8 : f9 = f
    · subst h8
      rw [if_pos rfl]
      simp only [ht, and_self, if_true, List.length_append, List.length_cons, List.length_nil] at h7
      congr 1; omega
    · rw [if_neg h8, hJf f9 hf9]
      simp only [h8, false_and, if_false, Nat.add_zero] at h7
      rw [h7]
set_option maxHeartbeats 4000000 in
set_option maxRecDepth 100000 in
/-- X3_dropOldest -/
theorem c_X3_dropOldest (l : Launch) (dd : va_G) (ga : Nat → ClassId) (n h0 h1 h2 h3 h4 : Nat) (d01 : h0 ≠ h1) (d02 : h0 ≠ h2) (d03 : h0 ≠ h3) (d04 : h0 ≠ h4) (d12 : h1 ≠ h2) (d13 : h1 ≠ h3) (d14 : h1 ≠ h4) (d23 : h2 ≠ h3) (d24 : h2 ≠ h4) (d34 : h3 ≠ h4) (w : Nat → Nat → List qM) (f t : Nat) (hn : n ≤ 16) (hf : f < n) (ht : t < n) (x9 : qM) (w9 : List qM) (ew : w f t = x9 :: w9) : Met l yX3_dropOldest wsX3_dropOldest ({ frames := 1, cells := 0, slots := 0, locals := 22 }) (qPc dd ga [.ref h0, .int (nI f), .int (nI t)] (fun H => qWir dd ga n h0 h1 h2 h3 h4 w H)) (qQv (fun H => qWir dd ga n h0 h1 h2 h3 h4 (q2 w f t w9) H) (fun q => q = h0 ∨ q = h1 ∨ q = h2 ∨ q = h3 ∨ q = h4)) 0 0 (fun q => q = h0 ∨ q = h1 ∨ q = h2 ∨ q = h3 ∨ q = h4) := by
  refine Met.ofW (cc := cX3_dropOldest) (maxL := 4) (ret := none) (by decide) rfl ?_
  intro p e s m args below meth c s₁ B hml hv
  obtain ⟨rfl, ⟨P, O, Y, F, hP, hPp, hPo, hPy, hPf, hJ, hJf⟩, hK⟩ := hv
  have hx := B.exec
  have hb := B.bytes
  have hr := B.returns
  have hts := atoms_spec (ws := wsX3_dropOldest) B.pre
  have hown : s.vm.findClass RX3 = some m.cls := findClass_of_methodNamed B.named
  have hlocks := B.notSynchronized
  have hS : qS (fun q => q = h0 ∨ q = h1 ∨ q = h2 ∨ q = h3 ∨ q = h4) s.heap s.heap [] := qS.rf
  have hl := lv_entry ([.ref h0, .int (nI f), .int (nI t)]) (n := 4) (Nat.le_of_ble_eq_true rfl)
  rw [lg_entry_eq]
  generalize (lg_sl ([.ref h0, .int (nI f), .int (nI t)]) ++ List.replicate (4 - (lg_sl ([.ref h0, .int (nI f), .int (nI t)])).length) Slot.unset).toArray = ls at hl ⊢
  have hin3 : ∀ w ∈ wsX30, w ∈ wsX3_dropOldest := by decide +kernel
  have hn2 := q_n2 hn
  have hwl := q_wlt hf ht
  obtain ⟨o, ho, eo, ey, hl8, hm⟩ := hJ f t hf ht
  have el : (w f t).length = w9.length + 1 := by rw [ew]; rfl
  rw [el] at ey hl8
  have hsp := q_sum_p (w := w) (f := f) (t := t) (by rw [ew]; simp) ht
  obtain ⟨u9, eu⟩ : ∃ u9, q_sum w f n = u9 + 1 := ⟨q_sum w f n - 1, by omega⟩
  refine lv_aload_n hx hb dX3_dropOldest_0 rfl (lv_at hl 0 rfl) ?_
  refine lv_iload_n hx hb dX3_dropOldest_1 rfl (lv_at hl 1 rfl) ?_
  refine lv_iload_n hx hb dX3_dropOldest_2 rfl (lv_at hl 2 rfl) ?_
  refine qc_i (va_runV (As := [.int (nI f), .int (nI t)]) (rest := []) ⟨hx, hb, hml, hown, hts⟩ (c_X3_wireOf l dd ga n h0 h1 h2 h3 h4 f t) (cwV 2 hts gX3_dropOldest_X3_wireOf rfl rfl rfl (by decide +kernel) ⟨Nat.le_of_ble_eq_true rfl, Nat.le_of_ble_eq_true rfl⟩) (qpreV hK hP hP rfl) rfl rfl hl.1 rfl (lv_room (Nat.le_of_ble_eq_true rfl)) dX3_dropOldest_3 ⟨Nat.zero_le _, Nat.zero_le _⟩) hS (fun q h => h.elim) (fun v3 H locs hp9 hz9 ho9 hS => ?_)
  subst hp9
  have hP := qa_kept hP (ho9 _ (fun h => h))
  have hPp := qa_kept hPp (ho9 _ (fun h => h))
  have hPo := qa_kept hPo (ho9 _ (fun h => h))
  have hPy := qa_kept hPy (ho9 _ (fun h => h))
  have hPf := qa_kept hPf (ho9 _ (fun h => h))
  refine lv_istore_n (lv' := [(3, .int (nI (f * n + t))), (0, .ref h0), (1, .int (nI f)), (2, .int (nI t))]) hx hb dX3_dropOldest_6 rfl hl (by decide) rfl (fun ls hl => ?_)
  refine lv_aload_n hx hb dX3_dropOldest_7 rfl (lv_at hl 1 rfl) ?_
  refine qr_get (ci := 3) (C := RX3) (T := TX3) (N := 5) hx hb hts hin3 hown hK hP rfl 3 (by decide) (hts (.fieldLink RX3 22 "QuorumLock$Wires" "lying" "[I") (by decide +kernel)) rfl dX3_dropOldest_8 ?_
  refine lv_iload_n hx hb dX3_dropOldest_11 rfl (lv_at hl 0 rfl) ?_
  refine qr_iald (v := (nI (w9.length + 1))) hx hb hK hPy (f * n + t) (by omega) (by omega) rfl ey dX3_dropOldest_12 ?_
  refine lv_if_le (tgt := 53) hx hb dX3_dropOldest_13 (by decide) (fun c_13 => absurd c_13 (nI_nle (by omega) (by omega))) (fun c_13 => ?_)
  refine lv_aload_n hx hb dX3_dropOldest_16 rfl (lv_at hl 1 rfl) ?_
  refine qr_get (ci := 3) (C := RX3) (T := TX3) (N := 5) hx hb hts hin3 hown hK hP rfl 2 (by decide) (hts (.fieldLink RX3 19 "QuorumLock$Wires" "oldest" "[I") (by decide +kernel)) rfl dX3_dropOldest_17 ?_
  refine lv_iload_n hx hb dX3_dropOldest_20 rfl (lv_at hl 0 rfl) ?_
  refine lv_aload_n hx hb dX3_dropOldest_21 rfl (lv_at hl 1 rfl) ?_
  refine qr_get (ci := 3) (C := RX3) (T := TX3) (N := 5) hx hb hts hin3 hown hK hP rfl 2 (by decide) (hts (.fieldLink RX3 19 "QuorumLock$Wires" "oldest" "[I") (by decide +kernel)) rfl dX3_dropOldest_22 ?_
  refine lv_iload_n hx hb dX3_dropOldest_25 rfl (lv_at hl 0 rfl) ?_
  refine qr_iald (v := (nI o)) hx hb hK hPo (f * n + t) (by omega) (by omega) rfl eo dX3_dropOldest_26 ?_
  refine lv_iconst (v := nI 1) hx hb dX3_dropOldest_27 (by decide) ?_
  refine lv_iadd hx hb dX3_dropOldest_28 ?_
  refine q_ti (y := nI (o + 1)) (nI_add _ _) ?_
  refine lv_bipush (v := nI 8) hx hb dX3_dropOldest_29 (by decide) ?_
  refine lv_irem hx hb dX3_dropOldest_31 (by decide) ?_
  refine q_ti (y := nI ((o + 1) % 8)) (pk_rem (by omega) (by decide) (by decide)) ?_
  refine qr_iast hx hb hK hPo hS (Or.inr (Or.inr (Or.inl rfl))) (f * n + t) (by omega) (by omega) rfl dX3_dropOldest_32 (fun H locs hz9 ho9 hat9 hS => ?_)
  have hPo := hat9
  have hP := qa_kept hP (ho9 _ d02)
  have hPp := qa_kept hPp (ho9 _ d12)
  have hPy := qa_kept hPy (ho9 _ d23.symm)
  have hPf := qa_kept hPf (ho9 _ d24.symm)
  refine lv_aload_n hx hb dX3_dropOldest_33 rfl (lv_at hl 1 rfl) ?_
  refine qr_get (ci := 3) (C := RX3) (T := TX3) (N := 5) hx hb hts hin3 hown hK hP rfl 3 (by decide) (hts (.fieldLink RX3 22 "QuorumLock$Wires" "lying" "[I") (by decide +kernel)) rfl dX3_dropOldest_34 ?_
  refine lv_iload_n hx hb dX3_dropOldest_37 rfl (lv_at hl 0 rfl) ?_
  refine lv_dup2_11 hx hb dX3_dropOldest_38 rfl rfl ?_
  refine qr_iald (v := (nI (w9.length + 1))) hx hb hK hPy (f * n + t) (by omega) (by omega) rfl ey dX3_dropOldest_39 ?_
  refine lv_iconst (v := 1) hx hb dX3_dropOldest_40 (by decide) ?_
  refine lv_isub hx hb dX3_dropOldest_41 ?_
  refine q_ti (y := nI w9.length) (nI_pred _) ?_
  refine qr_iast hx hb hK hPy hS (Or.inr (Or.inr (Or.inr (Or.inl rfl)))) (f * n + t) (by omega) (by omega) rfl dX3_dropOldest_42 (fun H locs hz9 ho9 hat9 hS => ?_)
  have hPy := hat9
  have hP := qa_kept hP (ho9 _ d03)
  have hPp := qa_kept hPp (ho9 _ d13)
  have hPo := qa_kept hPo (ho9 _ d23)
  have hPf := qa_kept hPf (ho9 _ d34.symm)
  refine lv_aload_n hx hb dX3_dropOldest_43 rfl (lv_at hl 1 rfl) ?_
  refine qr_get (ci := 3) (C := RX3) (T := TX3) (N := 5) hx hb hts hin3 hown hK hP rfl 4 (by decide) (hts (.fieldLink RX3 25 "QuorumLock$Wires" "lyingFrom" "[I") (by decide +kernel)) rfl dX3_dropOldest_44 ?_
  refine lv_iload_n hx hb dX3_dropOldest_47 rfl (lv_at hl 2 rfl) ?_
  refine lv_dup2_11 hx hb dX3_dropOldest_48 rfl rfl ?_
  refine qr_iald (v := (nI (u9 + 1))) hx hb hK hPf f (by omega) (by omega) rfl (by rw [hJf f hf, eu]) dX3_dropOldest_49 ?_
  refine lv_iconst (v := 1) hx hb dX3_dropOldest_50 (by decide) ?_
  refine lv_isub hx hb dX3_dropOldest_51 ?_
  refine q_ti (y := nI u9) (nI_pred _) ?_
  refine qr_iast hx hb hK hPf hS (Or.inr (Or.inr (Or.inr (Or.inr rfl)))) f (by omega) (by omega) rfl dX3_dropOldest_52 (fun H locs hz9 ho9 hat9 hS => ?_)
  have hPf := hat9
  have hP := qa_kept hP (ho9 _ d04)
  have hPp := qa_kept hPp (ho9 _ d14)
  have hPo := qa_kept hPo (ho9 _ d24)
  have hPy := qa_kept hPy (ho9 _ d34)
  refine q_vret hx hb hr hlocks hS ⟨P, (upd O (f * n + t) (nI ((o + 1) % 8))), (upd Y (f * n + t) (nI w9.length)), (upd F f (nI u9)), hP, hPp, hPo, hPy, hPf, ?_, ?_⟩ dX3_dropOldest_53
  · intro f9 t9 hf9 ht9
    by_cases hft : f9 = f ∧ t9 = t
    · obtain ⟨rfl, rfl⟩ := hft
      refine ⟨(o + 1) % 8, by omega, by simp [upd], by rw [q2_s]; simp [upd], by rw [q2_s]; omega, fun m0 x0 hm0 => ?_⟩
      rw [q2_s] at hm0
      have h3 := hm (m0 + 1) x0 (by rw [ew, List.getElem?_cons_succ]; exact hm0)
      have h4 : ((o + 1) % 8 + m0) % 8 = (o + (m0 + 1)) % 8 := by omega
      rw [h4]
      exact h3
    · have hne : f9 * n + t9 ≠ f * n + t := fun h => hft (q_winj ht9 ht h)
      obtain ⟨o9, ho9, eo9, ey9, hl89, hm9⟩ := hJ f9 t9 hf9 ht9
      refine ⟨o9, ho9, ?_, ?_, ?_, fun m0 x0 hm0 => ?_⟩
      · simp only [upd]; rw [if_neg hne]; exact eo9
      · rw [q2_n hft]; simp only [upd]; rw [if_neg hne]; exact ey9
      · rw [q2_n hft]; exact hl89
      · rw [q2_n hft] at hm0
        exact hm9 m0 x0 hm0
  · intro f9 hf9
    have h7 := q_sum_q2 w f t f9 w9 n
    simp only [upd]
    by_cases h8 : f9 = f
    · subst h8
      rw [if_pos rfl]
      simp only [ht, and_self, if_true] at h7
      congr 1; omega
    · rw [if_neg h8, hJf f9 hf9]
      simp only [h8, false_and, if_false, Nat.add_zero] at h7
      rw [h7]
def q_lf (w : Nat → Nat → List qM) (n : Nat) : Nat → Nat → Int32
  | 0, _ => -1
  | c + 1, f => if q_sum w f n = 0 then q_lf w n c (f + 1) else nI f
def q_lt (w : Nat → Nat → List qM) (f : Nat) : Nat → Nat → Int32
  | 0, _ => -1
  | c + 1, t => if w f t = [] then q_lt w f c (t + 1) else nI t
theorem q_sum_le2 {w : Nat → Nat → List qM} {f n : Nat} (h : ∀ t, t < n → (w f t).length ≤ 8) : ∀ m : Nat, m ≤ n → q_sum w f m ≤ 8 * m
  | 0, _ => Nat.le_refl 0
  | m + 1, hm => by
    have := q_sum_le2 h m (by omega)
    have := h m (by omega)
    unfold q_sum
    omega
set_option maxHeartbeats 4000000 in
set_option maxRecDepth 100000 in
/-- X3_leastFrom -/
theorem c_X3_leastFrom (l : Launch) (dd : va_G) (ga : Nat → ClassId) (n h0 h1 h2 h3 h4 : Nat) (w : Nat → Nat → List qM) (hn : n ≤ 16) : Met l yX3_leastFrom wsX3_leastFrom ({ frames := 0, cells := 0, slots := 0, locals := 0 }) (qPc dd ga [.ref h0] (fun H => qWir dd ga n h0 h1 h2 h3 h4 w H)) (qQi (fun v _ => v = q_lf w n n 0) (fun _ => False)) 0 0 (fun _ => False) := by
  refine Met.ofW (cc := cX3_leastFrom) (maxL := 2) (ret := (some .int)) (by decide) rfl ?_
  intro p e s m args below meth c s₁ B hml hv
  obtain ⟨rfl, ⟨P, O, Y, F, hP, hPp, hPo, hPy, hPf, hJ, hJf⟩, hK⟩ := hv
  have hx := B.exec
  have hb := B.bytes
  have hr := B.returns
  have hts := atoms_spec (ws := wsX3_leastFrom) B.pre
  have hown : s.vm.findClass RX3 = some m.cls := findClass_of_methodNamed B.named
  have hlocks := B.notSynchronized
  have hS : qS (fun _ => False) s.heap s.heap [] := qS.rf
  have hl := lv_entry ([.ref h0]) (n := 2) (Nat.le_of_ble_eq_true rfl)
  rw [lg_entry_eq]
  generalize (lg_sl ([.ref h0]) ++ List.replicate (2 - (lg_sl ([.ref h0])).length) Slot.unset).toArray = ls at hl ⊢
  have hin3 : ∀ w ∈ wsX30, w ∈ wsX3_leastFrom := by decide +kernel
  have hsl : ∀ f : Nat, f < n → q_sum w f n ≤ 8 * n := fun f hf => q_sum_le2 (fun t ht => by obtain ⟨o, ho, eo, ey, hl8, hm⟩ := hJ f t hf ht; exact hl8) n (Nat.le_refl n)
  have hloop : ∀ (c9 i9 : Nat) (ls : Array Slot), i9 + c9 = n → q_lf w n n 0 = q_lf w n c9 i9 → lv_has ls 2 [(1, .int (nI i9)), (0, .ref h0)] → W p l e (headSpec wsX3_leastFrom ({ frames := 0, cells := 0, slots := 0, locals := 0 })).room s m (([.ref h0] : List Value).toArray) below meth c s.heap [] 0 0 (MQ below (qQi (fun v _ => v = q_lf w n n 0) (fun _ => False)) (([.ref h0] : List Value).toArray) s 0 0 (fun _ => False)) (F0 m 2 ls []) := by
    intro c9
    induction c9 with
    | zero =>
      intro i9 ls hc he hl
      refine lv_iload_n hx hb dX3_leastFrom_2 rfl (lv_at hl 0 rfl) ?_
      refine lv_aload_n hx hb dX3_leastFrom_3 rfl (lv_at hl 1 rfl) ?_
      refine qr_get (ci := 3) (C := RX3) (T := TX3) (N := 5) hx hb hts hin3 hown hK hP rfl 0 (by decide) (hts (.fieldLink RX3 9 "QuorumLock$Wires" "ends" "I") (by decide +kernel)) rfl dX3_leastFrom_4 ?_
      refine lv_icmp_ge (tgt := 27) hx hb dX3_leastFrom_7 (by decide) (fun c_7 => ?_) (fun c_7 => absurd (nI_le (show n ≤ i9 by omega) (by omega)) c_7)
      refine lv_iconst (v := (-1)) hx hb dX3_leastFrom_27 (by decide) ?_
      exact q_iret hx hb hr hlocks hS he.symm dX3_leastFrom_28
    | succ c9 ih =>
      intro i9 ls hc he hl
      have hs9 := hsl i9 (by omega)
      refine lv_iload_n hx hb dX3_leastFrom_2 rfl (lv_at hl 0 rfl) ?_
      refine lv_aload_n hx hb dX3_leastFrom_3 rfl (lv_at hl 1 rfl) ?_
      refine qr_get (ci := 3) (C := RX3) (T := TX3) (N := 5) hx hb hts hin3 hown hK hP rfl 0 (by decide) (hts (.fieldLink RX3 9 "QuorumLock$Wires" "ends" "I") (by decide +kernel)) rfl dX3_leastFrom_4 ?_
      refine lv_icmp_ge (tgt := 27) hx hb dX3_leastFrom_7 (by decide) (fun c_7 => absurd c_7 (nI_ge (by omega) (by omega))) (fun c_7 => ?_)
      refine lv_aload_n hx hb dX3_leastFrom_10 rfl (lv_at hl 1 rfl) ?_
      refine qr_get (ci := 3) (C := RX3) (T := TX3) (N := 5) hx hb hts hin3 hown hK hP rfl 4 (by decide) (hts (.fieldLink RX3 25 "QuorumLock$Wires" "lyingFrom" "[I") (by decide +kernel)) rfl dX3_leastFrom_11 ?_
      refine lv_iload_n hx hb dX3_leastFrom_14 rfl (lv_at hl 0 rfl) ?_
      refine qr_iald (v := (nI (q_sum w i9 n))) hx hb hK hPf i9 (by omega) (by omega) rfl (hJf i9 (by omega)) dX3_leastFrom_15 ?_
      refine lv_if_le (tgt := 21) hx hb dX3_leastFrom_16 (by decide) (fun c_16 => ?_) (fun c_16 => ?_)
      · refine lv_iinc (v := nI (i9 + 1)) (lv' := [(1, .int (nI (i9 + 1))), (0, .ref h0)]) hx hb dX3_leastFrom_21 hl (k := 0) rfl (nI_1 _) (by decide) rfl (fun ls hl => ?_)
        refine lv_goto (tgt := 2) hx hb dX3_leastFrom_24 (by decide) ?_
        exact ih (i9 + 1) ls (by omega) (by rw [he, q_lf, if_pos (Classical.byContradiction fun h => absurd c_16 (nI_nle (by omega) (by omega)))]) (lv_sub hl [0, 1] rfl)
      · refine lv_iload_n hx hb dX3_leastFrom_19 rfl (lv_at hl 0 rfl) ?_
        exact q_iret hx hb hr hlocks hS (by rw [he, q_lf, if_neg (fun h => c_16 (by rw [h]; decide))]) dX3_leastFrom_20
  refine lv_iconst (v := nI 0) hx hb dX3_leastFrom_0 (by decide) ?_
  refine lv_istore_n (lv' := [(1, .int (nI 0)), (0, .ref h0)]) hx hb dX3_leastFrom_1 rfl hl (by decide) rfl (fun ls hl => ?_)
  exact hloop n 0 ls (by omega) rfl (lv_sub hl [0, 1] rfl)
set_option maxHeartbeats 4000000 in
set_option maxRecDepth 100000 in
/-- X3_leastTo -/
theorem c_X3_leastTon (l : Launch) (dd : va_G) (ga : Nat → ClassId) (n h0 h1 h2 h3 h4 : Nat) (w : Nat → Nat → List qM) (hn : n ≤ 16) : Met l yX3_leastTo wsX3_leastTo ({ frames := 2, cells := 0, slots := 0, locals := 44 }) (qPc dd ga [.ref h0, .int (-1)] (fun H => qWir dd ga n h0 h1 h2 h3 h4 w H)) (qQi (fun v _ => v = -1) (fun _ => False)) 0 0 (fun _ => False) := by
  refine Met.ofW (cc := cX3_leastTo) (maxL := 3) (ret := (some .int)) (by decide) rfl ?_
  intro p e s m args below meth c s₁ B hml hv
  obtain ⟨rfl, ⟨P, O, Y, F, hP, hPp, hPo, hPy, hPf, hJ, hJf⟩, hK⟩ := hv
  have hx := B.exec
  have hb := B.bytes
  have hr := B.returns
  have hts := atoms_spec (ws := wsX3_leastTo) B.pre
  have hown : s.vm.findClass RX3 = some m.cls := findClass_of_methodNamed B.named
  have hlocks := B.notSynchronized
  have hS : qS (fun _ => False) s.heap s.heap [] := qS.rf
  have hl := lv_entry ([.ref h0, .int (-1)]) (n := 3) (Nat.le_of_ble_eq_true rfl)
  rw [lg_entry_eq]
  generalize (lg_sl ([.ref h0, .int (-1)]) ++ List.replicate (3 - (lg_sl ([.ref h0, .int (-1)])).length) Slot.unset).toArray = ls at hl ⊢
  have hin3 : ∀ w ∈ wsX30, w ∈ wsX3_leastTo := by decide +kernel
  refine lv_iload_n hx hb dX3_leastTo_0 rfl (lv_at hl 1 rfl) ?_
  refine lv_if_lt (tgt := 12) hx hb dX3_leastTo_1 (by decide) (fun c_1 => ?_) (fun c_1 => absurd (by decide) c_1)
  refine lv_iconst (v := (-1)) hx hb dX3_leastTo_12 (by decide) ?_
  exact q_iret hx hb hr hlocks hS rfl dX3_leastTo_13
set_option maxHeartbeats 4000000 in
set_option maxRecDepth 100000 in
/-- X3_leastTo -/
theorem c_X3_leastTo (l : Launch) (dd : va_G) (ga : Nat → ClassId) (n h0 h1 h2 h3 h4 : Nat) (w : Nat → Nat → List qM) (hn : n ≤ 16) (f : Nat) (hf : f < n) : Met l yX3_leastTo wsX3_leastTo ({ frames := 2, cells := 0, slots := 0, locals := 44 }) (qPc dd ga [.ref h0, .int (nI f)] (fun H => qWir dd ga n h0 h1 h2 h3 h4 w H)) (qQi (fun v _ => v = q_lt w f n 0) (fun _ => False)) 0 0 (fun _ => False) := by
  refine Met.ofW (cc := cX3_leastTo) (maxL := 3) (ret := (some .int)) (by decide) rfl ?_
  intro p e s m args below meth c s₁ B hml hv
  obtain ⟨rfl, ⟨P, O, Y, F, hP, hPp, hPo, hPy, hPf, hJ, hJf⟩, hK⟩ := hv
  have hx := B.exec
  have hb := B.bytes
  have hr := B.returns
  have hts := atoms_spec (ws := wsX3_leastTo) B.pre
  have hown : s.vm.findClass RX3 = some m.cls := findClass_of_methodNamed B.named
  have hlocks := B.notSynchronized
  have hS : qS (fun _ => False) s.heap s.heap [] := qS.rf
  have hl := lv_entry ([.ref h0, .int (nI f)]) (n := 3) (Nat.le_of_ble_eq_true rfl)
  rw [lg_entry_eq]
  generalize (lg_sl ([.ref h0, .int (nI f)]) ++ List.replicate (3 - (lg_sl ([.ref h0, .int (nI f)])).length) Slot.unset).toArray = ls at hl ⊢
  have hin3 : ∀ w ∈ wsX30, w ∈ wsX3_leastTo := by decide +kernel
  have hloop : ∀ (c9 i9 : Nat) (ls : Array Slot) (H : Heap) (locs : List Loc), i9 + c9 = n → q_lt w f n 0 = q_lt w f c9 i9 → va_at dd vwCl (h0, .inr (3, [.int (nI n), .ref h1, .ref h2, .ref h3, .ref h4])) H → va_at dd vwCl (h1, .inl (ga 0, n * n * 8 * 3, .inl P)) H → va_at dd vwCl (h2, .inl (ga 0, n * n, .inl O)) H → va_at dd vwCl (h3, .inl (ga 0, n * n, .inl Y)) H → va_at dd vwCl (h4, .inl (ga 0, n, .inl F)) H → qS (fun _ => False) s.heap H locs → lv_has ls 3 [(2, .int (nI i9)), (0, .ref h0), (1, .int (nI f))] → W p l e (headSpec wsX3_leastTo ({ frames := 2, cells := 0, slots := 0, locals := 44 })).room s m (([.ref h0, .int (nI f)] : List Value).toArray) below meth c H locs 0 0 (MQ below (qQi (fun v _ => v = q_lt w f n 0) (fun _ => False)) (([.ref h0, .int (nI f)] : List Value).toArray) s 0 0 (fun _ => False)) (F0 m 16 ls []) := by
    intro c9
    induction c9 with
    | zero =>
      intro i9 ls H locs hc he hP hPp hPo hPy hPf hS hl
      refine lv_iload_n hx hb dX3_leastTo_16 rfl (lv_at hl 0 rfl) ?_
      refine lv_aload_n hx hb dX3_leastTo_17 rfl (lv_at hl 1 rfl) ?_
      refine qr_get (ci := 3) (C := RX3) (T := TX3) (N := 5) hx hb hts hin3 hown hK hP rfl 0 (by decide) (hts (.fieldLink RX3 9 "QuorumLock$Wires" "ends" "I") (by decide +kernel)) rfl dX3_leastTo_18 ?_
      refine lv_icmp_ge (tgt := 41) hx hb dX3_leastTo_21 (by decide) (fun c_21 => ?_) (fun c_21 => absurd (nI_le (show n ≤ i9 by omega) (by omega)) c_21)
      refine lv_iconst (v := (-1)) hx hb dX3_leastTo_41 (by decide) ?_
      exact q_iret hx hb hr hlocks hS he.symm dX3_leastTo_42
    | succ c9 ih =>
      intro i9 ls H locs hc he hP hPp hPo hPy hPf hS hl
      have hi9 : i9 < n := by omega
      obtain ⟨o, ho, eo, ey, hl8, hm⟩ := hJ f i9 hf hi9
      refine lv_iload_n hx hb dX3_leastTo_16 rfl (lv_at hl 0 rfl) ?_
      refine lv_aload_n hx hb dX3_leastTo_17 rfl (lv_at hl 1 rfl) ?_
      refine qr_get (ci := 3) (C := RX3) (T := TX3) (N := 5) hx hb hts hin3 hown hK hP rfl 0 (by decide) (hts (.fieldLink RX3 9 "QuorumLock$Wires" "ends" "I") (by decide +kernel)) rfl dX3_leastTo_18 ?_
      refine lv_icmp_ge (tgt := 41) hx hb dX3_leastTo_21 (by decide) (fun c_21 => absurd c_21 (nI_ge (by omega) (by omega))) (fun c_21 => ?_)
      refine lv_aload_n hx hb dX3_leastTo_24 rfl (lv_at hl 1 rfl) ?_
      refine lv_iload_n hx hb dX3_leastTo_25 rfl (lv_at hl 2 rfl) ?_
      refine lv_iload_n hx hb dX3_leastTo_26 rfl (lv_at hl 0 rfl) ?_
      refine qc_i (va_runV (As := [.int (nI f), .int (nI i9)]) (rest := []) ⟨hx, hb, hml, hown, hts⟩ (c_X3_count l dd ga n h0 h1 h2 h3 h4 w f i9 hn hf hi9) (cwV 2 hts gX3_leastTo_X3_count rfl rfl rfl (by decide +kernel) ⟨Nat.le_of_ble_eq_true rfl, Nat.le_of_ble_eq_true rfl⟩) (qpreV hK (⟨P, O, Y, F, hP, hPp, hPo, hPy, hPf, hJ, hJf⟩) hP rfl) rfl rfl hl.1 rfl (lv_room (Nat.le_of_ble_eq_true rfl)) dX3_leastTo_27 ⟨Nat.zero_le _, Nat.zero_le _⟩) hS (fun q h => h.elim) (fun v27 H locs hp9 hz9 ho9 hS => ?_)
      subst hp9
      have hP := qa_kept hP (ho9 _ (fun h => h))
      have hPp := qa_kept hPp (ho9 _ (fun h => h))
      have hPo := qa_kept hPo (ho9 _ (fun h => h))
      have hPy := qa_kept hPy (ho9 _ (fun h => h))
      have hPf := qa_kept hPf (ho9 _ (fun h => h))
      refine lv_if_le (tgt := 35) hx hb dX3_leastTo_30 (by decide) (fun c_30 => ?_) (fun c_30 => ?_)
      · refine lv_iinc (v := nI (i9 + 1)) (lv' := [(2, .int (nI (i9 + 1))), (0, .ref h0), (1, .int (nI f))]) hx hb dX3_leastTo_35 hl (k := 0) rfl (nI_1 _) (by decide) rfl (fun ls hl => ?_)
        refine lv_goto (tgt := 16) hx hb dX3_leastTo_38 (by decide) ?_
        exact ih (i9 + 1) ls _ _ (by omega) (by rw [he, q_lt, if_pos (List.length_eq_zero_iff.mp (Classical.byContradiction fun h => absurd c_30 (nI_nle (by omega) (by omega))))]) hP hPp hPo hPy hPf hS (lv_sub hl [0, 1, 2] rfl)
      · refine lv_iload_n hx hb dX3_leastTo_33 rfl (lv_at hl 0 rfl) ?_
        exact q_iret hx hb hr hlocks hS (by rw [he, q_lt, if_neg (fun h => c_30 (by rw [h]; decide))]) dX3_leastTo_34
  refine lv_iload_n hx hb dX3_leastTo_0 rfl (lv_at hl 1 rfl) ?_
  refine lv_if_lt (tgt := 12) hx hb dX3_leastTo_1 (by decide) (fun c_1 => absurd c_1 (nI_pos (by omega))) (fun c_1 => ?_)
  refine lv_iload_n hx hb dX3_leastTo_4 rfl (lv_at hl 1 rfl) ?_
  refine lv_aload_n hx hb dX3_leastTo_5 rfl (lv_at hl 0 rfl) ?_
  refine qr_get (ci := 3) (C := RX3) (T := TX3) (N := 5) hx hb hts hin3 hown hK hP rfl 0 (by decide) (hts (.fieldLink RX3 9 "QuorumLock$Wires" "ends" "I") (by decide +kernel)) rfl dX3_leastTo_6 ?_
  refine lv_icmp_lt (tgt := 14) hx hb dX3_leastTo_9 (by decide) (fun c_9 => ?_) (fun c_9 => absurd (nI_lt hf (by omega)) c_9)
  refine lv_iconst (v := nI 0) hx hb dX3_leastTo_14 (by decide) ?_
  refine lv_istore_n (lv' := [(2, .int (nI 0)), (0, .ref h0), (1, .int (nI f))]) hx hb dX3_leastTo_15 rfl hl (by decide) rfl (fun ls hl => ?_)
  exact hloop n 0 ls _ _ (by omega) rfl hP hPp hPo hPy hPf hS (lv_sub hl [0, 1, 2] rfl)
theorem q_sum_e (f : Nat) : ∀ m : Nat, q_sum (fun _ _ => []) f m = 0
  | 0 => rfl
  | m + 1 => by unfold q_sum; rw [q_sum_e f m]; rfl
set_option maxHeartbeats 4000000 in
set_option maxRecDepth 100000 in
/-- emptyAll, of wires that hold anything -/
theorem c_X3_emptyAll (l : Launch) (dd : va_G) (ga : Nat → ClassId) (n h0 h1 h2 h3 h4 : Nat) (d01 : h0 ≠ h1) (d02 : h0 ≠ h2) (d03 : h0 ≠ h3) (d04 : h0 ≠ h4) (d12 : h1 ≠ h2) (d13 : h1 ≠ h3) (d14 : h1 ≠ h4) (d23 : h2 ≠ h3) (d24 : h2 ≠ h4) (d34 : h3 ≠ h4) (hn : n ≤ 16) : Met l yX3_emptyAll wsX3_emptyAll ({ frames := 0, cells := 0, slots := 0, locals := 0 }) (qPc dd ga [.ref h0] (fun H => (∃ P O Y F : Nat → Int32, va_at dd vwCl (h0, .inr (3, [.int (nI n), .ref h1, .ref h2, .ref h3, .ref h4])) H ∧ va_at dd vwCl (h1, .inl (ga 0, n * n * 8 * 3, .inl P)) H ∧ va_at dd vwCl (h2, .inl (ga 0, n * n, .inl O)) H ∧ va_at dd vwCl (h3, .inl (ga 0, n * n, .inl Y)) H ∧ va_at dd vwCl (h4, .inl (ga 0, n, .inl F)) H))) (qQv (fun H => qWir dd ga n h0 h1 h2 h3 h4 (fun _ _ => []) H) (fun q => q = h0 ∨ q = h1 ∨ q = h2 ∨ q = h3 ∨ q = h4)) 0 0 (fun q => q = h0 ∨ q = h1 ∨ q = h2 ∨ q = h3 ∨ q = h4) := by
  refine Met.ofW (cc := cX3_emptyAll) (maxL := 2) (ret := none) (by decide) rfl ?_
  intro p e s m args below meth c s₁ B hml hv
  obtain ⟨rfl, ⟨P, O, Y, F, hP, hPp, hPo, hPy, hPf⟩, hK⟩ := hv
  have hx := B.exec
  have hb := B.bytes
  have hr := B.returns
  have hts := atoms_spec (ws := wsX3_emptyAll) B.pre
  have hown : s.vm.findClass RX3 = some m.cls := findClass_of_methodNamed B.named
  have hlocks := B.notSynchronized
  have hS : qS (fun q => q = h0 ∨ q = h1 ∨ q = h2 ∨ q = h3 ∨ q = h4) s.heap s.heap [] := qS.rf
  have hl := lv_entry ([.ref h0]) (n := 2) (Nat.le_of_ble_eq_true rfl)
  rw [lg_entry_eq]
  generalize (lg_sl ([.ref h0]) ++ List.replicate (2 - (lg_sl ([.ref h0])).length) Slot.unset).toArray = ls at hl ⊢
  have hin3 : ∀ w ∈ wsX30, w ∈ wsX3_emptyAll := by decide +kernel
  have hn2 := q_n2 hn
  have hloop2 : ∀ (c9 i9 : Nat) (F O Y : Nat → Int32) (ls : Array Slot) (H : Heap) (locs : List Loc), i9 + c9 = n → (∀ j : Nat, j < n * n → O j = 0 ∧ Y j = 0) → (∀ j : Nat, j < i9 → F j = 0) → va_at dd vwCl (h0, .inr (3, [.int (nI n), .ref h1, .ref h2, .ref h3, .ref h4])) H → va_at dd vwCl (h1, .inl (ga 0, n * n * 8 * 3, .inl P)) H → va_at dd vwCl (h2, .inl (ga 0, n * n, .inl O)) H → va_at dd vwCl (h3, .inl (ga 0, n * n, .inl Y)) H → va_at dd vwCl (h4, .inl (ga 0, n, .inl F)) H → qS (fun q => q = h0 ∨ q = h1 ∨ q = h2 ∨ q = h3 ∨ q = h4) s.heap H locs → lv_has ls 2 [(1, .int (nI i9)), (0, .ref h0)] → W p l e (headSpec wsX3_emptyAll ({ frames := 0, cells := 0, slots := 0, locals := 0 })).room s m (([.ref h0] : List Value).toArray) below meth c H locs 0 0 (MQ below (qQv (fun H => qWir dd ga n h0 h1 h2 h3 h4 (fun _ _ => []) H) (fun q => q = h0 ∨ q = h1 ∨ q = h2 ∨ q = h3 ∨ q = h4)) (([.ref h0] : List Value).toArray) s 0 0 (fun q => q = h0 ∨ q = h1 ∨ q = h2 ∨ q = h3 ∨ q = h4)) (F0 m 33 ls []) := by
    intro c9
    induction c9 with
    | zero =>
      intro i9 F O Y ls H locs hc hOY hF9 hP hPp hPo hPy hPf hS hl
      refine lv_iload_n hx hb dX3_emptyAll_33 rfl (lv_at hl 0 rfl) ?_
      refine lv_aload_n hx hb dX3_emptyAll_34 rfl (lv_at hl 1 rfl) ?_
      refine qr_get (ci := 3) (C := RX3) (T := TX3) (N := 5) hx hb hts hin3 hown hK hP rfl 0 (by decide) (hts (.fieldLink RX3 9 "QuorumLock$Wires" "ends" "I") (by decide +kernel)) rfl dX3_emptyAll_35 ?_
      refine lv_icmp_ge (tgt := 54) hx hb dX3_emptyAll_38 (by decide) (fun c_38 => ?_) (fun c_38 => absurd (nI_le (show n ≤ i9 by omega) (by omega)) c_38)
      refine q_vret hx hb hr hlocks hS ⟨P, O, Y, F, hP, hPp, hPo, hPy, hPf, fun f t hf ht => ⟨0, by decide, (hOY _ (q_wlt hf ht)).1, (hOY _ (q_wlt hf ht)).2, by simp, fun m0 x0 hm0 => by simp at hm0⟩, fun f hf => ?_⟩ dX3_emptyAll_54
      rw [hF9 f (by omega), q_sum_e]; rfl
    | succ c9 ih =>
      intro i9 F O Y ls H locs hc hOY hF9 hP hPp hPo hPy hPf hS hl
      refine lv_iload_n hx hb dX3_emptyAll_33 rfl (lv_at hl 0 rfl) ?_
      refine lv_aload_n hx hb dX3_emptyAll_34 rfl (lv_at hl 1 rfl) ?_
      refine qr_get (ci := 3) (C := RX3) (T := TX3) (N := 5) hx hb hts hin3 hown hK hP rfl 0 (by decide) (hts (.fieldLink RX3 9 "QuorumLock$Wires" "ends" "I") (by decide +kernel)) rfl dX3_emptyAll_35 ?_
      refine lv_icmp_ge (tgt := 54) hx hb dX3_emptyAll_38 (by decide) (fun c_38 => absurd c_38 (nI_ge (by omega) (by omega))) (fun c_38 => ?_)
      refine lv_aload_n hx hb dX3_emptyAll_41 rfl (lv_at hl 1 rfl) ?_
      refine qr_get (ci := 3) (C := RX3) (T := TX3) (N := 5) hx hb hts hin3 hown hK hP rfl 4 (by decide) (hts (.fieldLink RX3 25 "QuorumLock$Wires" "lyingFrom" "[I") (by decide +kernel)) rfl dX3_emptyAll_42 ?_
      refine lv_iload_n hx hb dX3_emptyAll_45 rfl (lv_at hl 0 rfl) ?_
      refine lv_iconst (v := 0) hx hb dX3_emptyAll_46 (by decide) ?_
      refine qr_iast hx hb hK hPf hS (Or.inr (Or.inr (Or.inr (Or.inr rfl)))) i9 (by omega) (by omega) rfl dX3_emptyAll_47 (fun H locs hz9 ho9 hat9 hS => ?_)
      have hPf := hat9
      have hP := qa_kept hP (ho9 _ d04)
      have hPp := qa_kept hPp (ho9 _ d14)
      have hPo := qa_kept hPo (ho9 _ d24)
      have hPy := qa_kept hPy (ho9 _ d34)
      refine lv_iinc (v := nI (i9 + 1)) (lv' := [(1, .int (nI (i9 + 1))), (0, .ref h0)]) hx hb dX3_emptyAll_48 hl (k := 0) rfl (nI_1 _) (by decide) rfl (fun ls hl => ?_)
      refine lv_goto (tgt := 33) hx hb dX3_emptyAll_51 (by decide) ?_
      exact ih (i9 + 1) (upd F i9 0) O Y ls _ _ (by omega) hOY (fun j hj => by simp only [upd]; split; rfl; exact hF9 j (by omega)) hP hPp hPo hPy hPf hS (lv_sub hl [0, 1] rfl)
  have hloop1 : ∀ (c9 i9 : Nat) (O Y : Nat → Int32) (ls : Array Slot) (H : Heap) (locs : List Loc), i9 + c9 = n * n → (∀ j : Nat, j < i9 → O j = 0 ∧ Y j = 0) → va_at dd vwCl (h0, .inr (3, [.int (nI n), .ref h1, .ref h2, .ref h3, .ref h4])) H → va_at dd vwCl (h1, .inl (ga 0, n * n * 8 * 3, .inl P)) H → va_at dd vwCl (h2, .inl (ga 0, n * n, .inl O)) H → va_at dd vwCl (h3, .inl (ga 0, n * n, .inl Y)) H → va_at dd vwCl (h4, .inl (ga 0, n, .inl F)) H → qS (fun q => q = h0 ∨ q = h1 ∨ q = h2 ∨ q = h3 ∨ q = h4) s.heap H locs → lv_has ls 2 [(1, .int (nI i9)), (0, .ref h0)] → W p l e (headSpec wsX3_emptyAll ({ frames := 0, cells := 0, slots := 0, locals := 0 })).room s m (([.ref h0] : List Value).toArray) below meth c H locs 0 0 (MQ below (qQv (fun H => qWir dd ga n h0 h1 h2 h3 h4 (fun _ _ => []) H) (fun q => q = h0 ∨ q = h1 ∨ q = h2 ∨ q = h3 ∨ q = h4)) (([.ref h0] : List Value).toArray) s 0 0 (fun q => q = h0 ∨ q = h1 ∨ q = h2 ∨ q = h3 ∨ q = h4)) (F0 m 2 ls []) := by
    intro c9
    induction c9 with
    | zero =>
      intro i9 O Y ls H locs hc hOY hP hPp hPo hPy hPf hS hl
      refine lv_iload_n hx hb dX3_emptyAll_2 rfl (lv_at hl 0 rfl) ?_
      refine lv_aload_n hx hb dX3_emptyAll_3 rfl (lv_at hl 1 rfl) ?_
      refine qr_get (ci := 3) (C := RX3) (T := TX3) (N := 5) hx hb hts hin3 hown hK hP rfl 3 (by decide) (hts (.fieldLink RX3 22 "QuorumLock$Wires" "lying" "[I") (by decide +kernel)) rfl dX3_emptyAll_4 ?_
      refine qr_alen hx hb hK hPy dX3_emptyAll_7 ?_
      refine lv_icmp_ge (tgt := 31) hx hb dX3_emptyAll_8 (by decide) (fun c_8 => ?_) (fun c_8 => absurd (nI_le (show n * n ≤ i9 by omega) (by omega)) c_8)
      refine lv_iconst (v := nI 0) hx hb dX3_emptyAll_31 (by decide) ?_
      refine lv_istore_n (lv' := [(1, .int (nI 0)), (0, .ref h0)]) hx hb dX3_emptyAll_32 rfl hl (by decide) rfl (fun ls hl => ?_)
      exact hloop2 n 0 F O Y ls _ _ (by omega) (fun j hj => hOY j (by omega)) (fun j hj => by omega) hP hPp hPo hPy hPf hS (lv_sub hl [0, 1] rfl)
    | succ c9 ih =>
      intro i9 O Y ls H locs hc hOY hP hPp hPo hPy hPf hS hl
      refine lv_iload_n hx hb dX3_emptyAll_2 rfl (lv_at hl 0 rfl) ?_
      refine lv_aload_n hx hb dX3_emptyAll_3 rfl (lv_at hl 1 rfl) ?_
      refine qr_get (ci := 3) (C := RX3) (T := TX3) (N := 5) hx hb hts hin3 hown hK hP rfl 3 (by decide) (hts (.fieldLink RX3 22 "QuorumLock$Wires" "lying" "[I") (by decide +kernel)) rfl dX3_emptyAll_4 ?_
      refine qr_alen hx hb hK hPy dX3_emptyAll_7 ?_
      refine lv_icmp_ge (tgt := 31) hx hb dX3_emptyAll_8 (by decide) (fun c_8 => absurd c_8 (nI_ge (by omega) (by omega))) (fun c_8 => ?_)
      refine lv_aload_n hx hb dX3_emptyAll_11 rfl (lv_at hl 1 rfl) ?_
      refine qr_get (ci := 3) (C := RX3) (T := TX3) (N := 5) hx hb hts hin3 hown hK hP rfl 2 (by decide) (hts (.fieldLink RX3 19 "QuorumLock$Wires" "oldest" "[I") (by decide +kernel)) rfl dX3_emptyAll_12 ?_
      refine lv_iload_n hx hb dX3_emptyAll_15 rfl (lv_at hl 0 rfl) ?_
      refine lv_iconst (v := 0) hx hb dX3_emptyAll_16 (by decide) ?_
      refine qr_iast hx hb hK hPo hS (Or.inr (Or.inr (Or.inl rfl))) i9 (by omega) (by omega) rfl dX3_emptyAll_17 (fun H locs hz9 ho9 hat9 hS => ?_)
      have hPo := hat9
      have hP := qa_kept hP (ho9 _ d02)
      have hPp := qa_kept hPp (ho9 _ d12)
      have hPy := qa_kept hPy (ho9 _ d23.symm)
      have hPf := qa_kept hPf (ho9 _ d24.symm)
      refine lv_aload_n hx hb dX3_emptyAll_18 rfl (lv_at hl 1 rfl) ?_
      refine qr_get (ci := 3) (C := RX3) (T := TX3) (N := 5) hx hb hts hin3 hown hK hP rfl 3 (by decide) (hts (.fieldLink RX3 22 "QuorumLock$Wires" "lying" "[I") (by decide +kernel)) rfl dX3_emptyAll_19 ?_
      refine lv_iload_n hx hb dX3_emptyAll_22 rfl (lv_at hl 0 rfl) ?_
      refine lv_iconst (v := 0) hx hb dX3_emptyAll_23 (by decide) ?_
      refine qr_iast hx hb hK hPy hS (Or.inr (Or.inr (Or.inr (Or.inl rfl)))) i9 (by omega) (by omega) rfl dX3_emptyAll_24 (fun H locs hz9 ho9 hat9 hS => ?_)
      have hPy := hat9
      have hP := qa_kept hP (ho9 _ d03)
      have hPp := qa_kept hPp (ho9 _ d13)
      have hPo := qa_kept hPo (ho9 _ d23)
      have hPf := qa_kept hPf (ho9 _ d34.symm)
      refine lv_iinc (v := nI (i9 + 1)) (lv' := [(1, .int (nI (i9 + 1))), (0, .ref h0)]) hx hb dX3_emptyAll_25 hl (k := 0) rfl (nI_1 _) (by decide) rfl (fun ls hl => ?_)
      refine lv_goto (tgt := 2) hx hb dX3_emptyAll_28 (by decide) ?_
      exact ih (i9 + 1) (upd O i9 0) (upd Y i9 0) ls _ _ (by omega) (fun j hj => by simp only [upd]; split; exact ⟨rfl, rfl⟩; exact hOY j (by omega)) hP hPp hPo hPy hPf hS (lv_sub hl [0, 1] rfl)
  refine lv_iconst (v := nI 0) hx hb dX3_emptyAll_0 (by decide) ?_
  refine lv_istore_n (lv' := [(1, .int (nI 0)), (0, .ref h0)]) hx hb dX3_emptyAll_1 rfl hl (by decide) rfl (fun ls hl => ?_)
  exact hloop1 (n * n) 0 O Y ls _ _ (by omega) (fun j hj => by omega) hP hPp hPo hPy hPf hS (lv_sub hl [0, 1] rfl)
