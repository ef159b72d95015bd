set_option maxHeartbeats 4000000 in
set_option maxRecDepth 100000 in
/-- isBefore -/
theorem c_X4_isBefore (l : Launch) (dd : va_G) (ga : Nat → ClassId) (x0 x1 x2 x3 : Int32) : Met l yX4_isBefore wsX4_isBefore ({ frames := 0, cells := 0, slots := 0, locals := 0 }) (qPc dd ga [.int x0, .int x1, .int x2, .int x3] (fun H => True)) (qQi (fun r _ => r = if x1 < x3 ∨ x1 = x3 ∧ x0 < x2 then 1 else 0) (fun _ => False)) 0 0 (fun _ => False) := by
  refine Met.ofW (cc := cX4_isBefore) (maxL := 4) (ret := (some .boolean)) (by decide) rfl ?_
  intro p e s m args below meth c s₁ B hml hv
  obtain ⟨rfl, hP, hK⟩ := hv
  have hx := B.exec
  have hb := B.bytes
  have hr := B.returns
  have hts := atoms_spec (ws := wsX4_isBefore) B.pre
  have hown : s.vm.findClass RX4 = some m.cls := findClass_of_methodNamed B.named
  have hlocks := B.notSynchronized
  have hS : qS (fun _ => False) s.heap s.heap [] := qS.rf
  have hl := lv_entry ([.int x0, .int x1, .int x2, .int x3]) (n := 4) (Nat.le_of_ble_eq_true rfl)
  rw [lg_entry_eq]
  generalize (lg_sl ([.int x0, .int x1, .int x2, .int x3]) ++ List.replicate (4 - (lg_sl ([.int x0, .int x1, .int x2, .int x3])).length) Slot.unset).toArray = ls at hl ⊢
  refine lv_iload_n hx hb dX4_isBefore_0 rfl (lv_at hl 1 rfl) ?_
  refine lv_iload_n hx hb dX4_isBefore_1 rfl (lv_at hl 3 rfl) ?_
  refine lv_icmp_lt (tgt := 15) hx hb dX4_isBefore_2 (by decide) (fun c_2 => ?_) (fun c_2 => ?_)
  · refine lv_iconst (v := 1) hx hb dX4_isBefore_15 (by decide) ?_
    refine lv_goto (tgt := 20) hx hb dX4_isBefore_16 (by decide) ?_
    exact q_zret hx hb hr hlocks rfl hS (by first | rw [if_pos (Or.inl (by assumption))] | (rw [if_pos]; exact Or.inr ⟨by assumption, Int32.not_le.mp (by assumption)⟩)) dX4_isBefore_20
  · refine lv_iload_n hx hb dX4_isBefore_5 rfl (lv_at hl 1 rfl) ?_
    refine lv_iload_n hx hb dX4_isBefore_6 rfl (lv_at hl 3 rfl) ?_
    refine lv_icmp_ne (tgt := 19) hx hb dX4_isBefore_7 (by decide) (fun c_7 => ?_) (fun c_7 => ?_)
    · refine lv_iconst (v := 0) hx hb dX4_isBefore_19 (by decide) ?_
      exact q_zret hx hb hr hlocks rfl hS (by rw [if_neg]; rintro (h | ⟨h1, h2⟩) <;> first | contradiction | exact absurd h2 (Int32.not_lt.mpr (by assumption))) dX4_isBefore_20
    · refine lv_iload_n hx hb dX4_isBefore_10 rfl (lv_at hl 0 rfl) ?_
      refine lv_iload_n hx hb dX4_isBefore_11 rfl (lv_at hl 2 rfl) ?_
      refine lv_icmp_ge (tgt := 19) hx hb dX4_isBefore_12 (by decide) (fun c_12 => ?_) (fun c_12 => ?_)
      · refine lv_iconst (v := 0) hx hb dX4_isBefore_19 (by decide) ?_
        exact q_zret hx hb hr hlocks rfl hS (by rw [if_neg]; rintro (h | ⟨h1, h2⟩) <;> first | contradiction | exact absurd h2 (Int32.not_lt.mpr (by assumption))) dX4_isBefore_20
      · refine lv_iconst (v := 1) hx hb dX4_isBefore_15 (by decide) ?_
        refine lv_goto (tgt := 20) hx hb dX4_isBefore_16 (by decide) ?_
        exact q_zret hx hb hr hlocks rfl hS (by first | rw [if_pos (Or.inl (by assumption))] | (rw [if_pos]; exact Or.inr ⟨by assumption, Int32.not_le.mp (by assumption)⟩)) dX4_isBefore_20
/-- the rows' own facts -/
theorem q_befI {t u : Int32} {a b : Nat} (ha : a < 2 ^ 31) (hb : b < 2 ^ 31) : (t < u ∨ t = u ∧ nI a < nI b) ↔ q_bef t a u b = true := by
  simp only [q_bef, decide_eq_true_eq, nI_ltI ha hb]
theorem q_pl_le (r : List (Nat × Int32)) (a : Nat) (t : Int32) : ∀ p : Nat, q_pl r a t p ≤ p
  | 0 => Nat.le_refl 0
  | p + 1 => by
    unfold q_pl
    split
    · exact Nat.le_succ_of_le (q_pl_le r a t p)
    · exact Nat.le_refl _
theorem q_ins_len (r : List (Nat × Int32)) (a : Nat) (t : Int32) : (q_ins r a t).length = r.length + 1 := by
  have := q_pl_le r a t r.length
  simp only [q_ins, List.length_append, List.length_take, List.length_cons, List.length_drop]
  omega
theorem q_ins_get {r : List (Nat × Int32)} {a : Nat} {t : Int32} {j : Nat} {x : Nat × Int32} (h : (q_ins r a t)[j]? = some x) : (j < q_pl r a t r.length ∧ r[j]? = some x) ∨ (j = q_pl r a t r.length ∧ x = (a, t)) ∨ (q_pl r a t r.length < j ∧ r[j - 1]? = some x) := by
  have hp := q_pl_le r a t r.length
  unfold q_ins at h
  generalize q_pl r a t r.length = P at *
  rw [List.getElem?_append, List.length_take, Nat.min_eq_left hp] at h
  split at h
  · rename_i hj
    rw [List.getElem?_take_of_lt hj] at h
    exact Or.inl ⟨hj, h⟩
  · rename_i hj
    rcases Nat.lt_or_ge P j with hlt | hge
    · right; right
      refine ⟨hlt, ?_⟩
      obtain ⟨d, hd⟩ : ∃ d, j - P = d + 1 := ⟨j - P - 1, by omega⟩
      rw [hd, List.getElem?_cons_succ, List.getElem?_drop] at h
      rw [← h]
      congr 1
      omega
    · right; left
      have : j = P := by omega
      subst this
      rw [Nat.sub_self, List.getElem?_cons_zero] at h
      exact ⟨rfl, (Option.some.inj h).symm⟩
theorem q_gd {α : Type} {r : List α} {d : α} {p : Nat} (h : p < r.length) : r[p]? = some (r.getD p d) := by
  rw [List.getD_eq_getElem?_getD, List.getElem?_eq_getElem h]; rfl
set_option maxHeartbeats 4000000 in
set_option maxRecDepth 100000 in
/-- X1_nodeAt -/
theorem c_X1_nodeAt (l : Launch) (dd : va_G) (ga : Nat → ClassId) (q h0 h1 h2 : Nat) (r : List (Nat × Int32)) (hq : q < 2 ^ 31) (hrq : r.length ≤ q) (x : Int32) : Met l yX1_nodeAt wsX1_nodeAt ({ frames := 0, cells := 0, slots := 0, locals := 0 }) (qPc dd ga [.ref h0, .int x] (fun H => qRow dd ga q h0 h1 h2 r H)) (qQi (fun v _ => v = q_at r x) (fun _ => False)) 0 0 (fun _ => False) := by
  refine Met.ofW (cc := cX1_nodeAt) (maxL := 2) (ret := (some .int)) (by decide) rfl ?_
  intro p e s m args below meth c s₁ B hml hv
  obtain ⟨rfl, ⟨f, g, hP, hF, hG, hJ⟩, hK⟩ := hv
  have hx := B.exec
  have hb := B.bytes
  have hr := B.returns
  have hts := atoms_spec (ws := wsX1_nodeAt) B.pre
  have hown : s.vm.findClass RX1 = some m.cls := findClass_of_methodNamed B.named
  have hlocks := B.notSynchronized
  have hS : qS (fun _ => False) s.heap s.heap [] := qS.rf
  have hl := lv_entry ([.ref h0, .int x]) (n := 2) (Nat.le_of_ble_eq_true rfl)
  rw [lg_entry_eq]
  generalize (lg_sl ([.ref h0, .int x]) ++ List.replicate (2 - (lg_sl ([.ref h0, .int x])).length) Slot.unset).toArray = ls at hl ⊢
  have hin1 : ∀ w ∈ wsX10, w ∈ wsX1_nodeAt := by decide +kernel
  refine lv_iload_n hx hb dX1_nodeAt_0 rfl (lv_at hl 1 rfl) ?_
  refine lv_if_lt (tgt := 21) hx hb dX1_nodeAt_1 (by decide) (fun c_1 => ?_) (fun c_1 => ?_)
  · refine lv_iconst (v := (-1)) hx hb dX1_nodeAt_21 (by decide) ?_
    exact q_iret hx hb hr hlocks hS (by unfold q_at; rw [if_pos (by first | exact Or.inl (by assumption) | exact Or.inr (by assumption))]) dX1_nodeAt_22
  · refine lv_iload_n hx hb dX1_nodeAt_4 rfl (lv_at hl 1 rfl) ?_
    refine lv_aload_n hx hb dX1_nodeAt_5 rfl (lv_at hl 0 rfl) ?_
    refine qr_get (ci := 1) (C := RX1) (T := TX1) (N := 3) hx hb hts hin1 hown hK hP rfl 2 (by decide) (hts (.fieldLink RX1 18 "QuorumLock$Row" "length" "I") (by decide +kernel)) rfl dX1_nodeAt_6 ?_
    refine lv_icmp_ge (tgt := 21) hx hb dX1_nodeAt_9 (by decide) (fun c_9 => ?_) (fun c_9 => ?_)
    · refine lv_iconst (v := (-1)) hx hb dX1_nodeAt_21 (by decide) ?_
      exact q_iret hx hb hr hlocks hS (by unfold q_at; rw [if_pos (by first | exact Or.inl (by assumption) | exact Or.inr (by assumption))]) dX1_nodeAt_22
    · refine lv_aload_n hx hb dX1_nodeAt_12 rfl (lv_at hl 0 rfl) ?_
      refine qr_get (ci := 1) (C := RX1) (T := TX1) (N := 3) hx hb hts hin1 hown hK hP rfl 0 (by decide) (hts (.fieldLink RX1 9 "QuorumLock$Row" "waitingNodes" "[I") (by decide +kernel)) rfl dX1_nodeAt_13 ?_
      refine lv_iload_n hx hb dX1_nodeAt_16 rfl (lv_at hl 1 rfl) ?_
      obtain ⟨j, hj, ej⟩ : ∃ j : Nat, j < r.length ∧ x = nI j := by
        rcases pk_ix x (n := r.length) (by omega) with h | h | h
        · exact absurd h c_1
        · exact absurd h c_9
        · exact h
      refine qr_iald (v := (f j)) hx hb hK hF j (by omega) (by omega) ej rfl dX1_nodeAt_17 ?_
      refine lv_goto (tgt := 22) hx hb dX1_nodeAt_18 (by decide) ?_
      exact q_iret hx hb hr hlocks hS (by unfold q_at; rw [if_neg (by rintro (h | h) <;> contradiction), ej, nI_clamp (by omega)]; exact (hJ j _ (q_gd hj)).1) dX1_nodeAt_22
set_option maxHeartbeats 4000000 in
set_option maxRecDepth 100000 in
/-- X1_timeAt -/
theorem c_X1_timeAt (l : Launch) (dd : va_G) (ga : Nat → ClassId) (q h0 h1 h2 : Nat) (r : List (Nat × Int32)) (hq : q < 2 ^ 31) (hrq : r.length ≤ q) (x : Int32) : Met l yX1_timeAt wsX1_timeAt ({ frames := 0, cells := 0, slots := 0, locals := 0 }) (qPc dd ga [.ref h0, .int x] (fun H => qRow dd ga q h0 h1 h2 r H)) (qQi (fun v _ => v = q_att r x) (fun _ => False)) 0 0 (fun _ => False) := by
  refine Met.ofW (cc := cX1_timeAt) (maxL := 2) (ret := (some .int)) (by decide) rfl ?_
  intro p e s m args below meth c s₁ B hml hv
  obtain ⟨rfl, ⟨f, g, hP, hF, hG, hJ⟩, hK⟩ := hv
  have hx := B.exec
  have hb := B.bytes
  have hr := B.returns
  have hts := atoms_spec (ws := wsX1_timeAt) B.pre
  have hown : s.vm.findClass RX1 = some m.cls := findClass_of_methodNamed B.named
  have hlocks := B.notSynchronized
  have hS : qS (fun _ => False) s.heap s.heap [] := qS.rf
  have hl := lv_entry ([.ref h0, .int x]) (n := 2) (Nat.le_of_ble_eq_true rfl)
  rw [lg_entry_eq]
  generalize (lg_sl ([.ref h0, .int x]) ++ List.replicate (2 - (lg_sl ([.ref h0, .int x])).length) Slot.unset).toArray = ls at hl ⊢
  have hin1 : ∀ w ∈ wsX10, w ∈ wsX1_timeAt := by decide +kernel
  refine lv_iload_n hx hb dX1_timeAt_0 rfl (lv_at hl 1 rfl) ?_
  refine lv_if_lt (tgt := 21) hx hb dX1_timeAt_1 (by decide) (fun c_1 => ?_) (fun c_1 => ?_)
  · refine lv_iconst (v := (-1)) hx hb dX1_timeAt_21 (by decide) ?_
    exact q_iret hx hb hr hlocks hS (by unfold q_att; rw [if_pos (by first | exact Or.inl (by assumption) | exact Or.inr (by assumption))]) dX1_timeAt_22
  · refine lv_iload_n hx hb dX1_timeAt_4 rfl (lv_at hl 1 rfl) ?_
    refine lv_aload_n hx hb dX1_timeAt_5 rfl (lv_at hl 0 rfl) ?_
    refine qr_get (ci := 1) (C := RX1) (T := TX1) (N := 3) hx hb hts hin1 hown hK hP rfl 2 (by decide) (hts (.fieldLink RX1 18 "QuorumLock$Row" "length" "I") (by decide +kernel)) rfl dX1_timeAt_6 ?_
    refine lv_icmp_ge (tgt := 21) hx hb dX1_timeAt_9 (by decide) (fun c_9 => ?_) (fun c_9 => ?_)
    · refine lv_iconst (v := (-1)) hx hb dX1_timeAt_21 (by decide) ?_
      exact q_iret hx hb hr hlocks hS (by unfold q_att; rw [if_pos (by first | exact Or.inl (by assumption) | exact Or.inr (by assumption))]) dX1_timeAt_22
    · refine lv_aload_n hx hb dX1_timeAt_12 rfl (lv_at hl 0 rfl) ?_
      refine qr_get (ci := 1) (C := RX1) (T := TX1) (N := 3) hx hb hts hin1 hown hK hP rfl 1 (by decide) (hts (.fieldLink RX1 15 "QuorumLock$Row" "waitingTimes" "[I") (by decide +kernel)) rfl dX1_timeAt_13 ?_
      refine lv_iload_n hx hb dX1_timeAt_16 rfl (lv_at hl 1 rfl) ?_
      obtain ⟨j, hj, ej⟩ : ∃ j : Nat, j < r.length ∧ x = nI j := by
        rcases pk_ix x (n := r.length) (by omega) with h | h | h
        · exact absurd h c_1
        · exact absurd h c_9
        · exact h
      refine qr_iald (v := (g j)) hx hb hK hG j (by omega) (by omega) ej rfl dX1_timeAt_17 ?_
      refine lv_goto (tgt := 22) hx hb dX1_timeAt_18 (by decide) ?_
      exact q_iret hx hb hr hlocks hS (by unfold q_att; rw [if_neg (by rintro (h | h) <;> contradiction), ej, nI_clamp (by omega)]; exact (hJ j _ (q_gd hj)).2) dX1_timeAt_22
set_option maxHeartbeats 4000000 in
set_option maxRecDepth 100000 in
/-- Row.insert -/
theorem c_X1_insert (l : Launch) (dd : va_G) (ga : Nat → ClassId) (q h0 h1 h2 : Nat) (r : List (Nat × Int32)) (hq : q < 2 ^ 31) (hrq : r.length < q) (n01 : h0 ≠ h1) (n02 : h0 ≠ h2) (n12 : h1 ≠ h2) (a : Nat) (t : Int32) (ha : a < 2 ^ 31) (hr31 : ∀ x ∈ r, x.1 < 2 ^ 31) : Met l yX1_insert wsX1_insert ({ frames := 1, cells := 0, slots := 0, locals := 23 }) (qPc dd ga [.ref h0, .int (nI a), .int t] (fun H => qRow dd ga q h0 h1 h2 r H)) (qQi (fun v H => v = nI (q_pl r a t r.length) ∧ qRow dd ga q h0 h1 h2 (q_ins r a t) H) (fun q => q = h0 ∨ q = h1 ∨ q = h2)) 0 0 (fun q => q = h0 ∨ q = h1 ∨ q = h2) := by
  refine Met.ofW (cc := cX1_insert) (maxL := 4) (ret := (some .int)) (by decide) rfl ?_
  intro p e s m args below meth c s₁ B hml hv
  obtain ⟨rfl, ⟨f, g, hP, hF, hG, hJ⟩, hK⟩ := hv
  have hx := B.exec
  have hb := B.bytes
  have hr := B.returns
  have hts := atoms_spec (ws := wsX1_insert) B.pre
  have hown : s.vm.findClass RX1 = some m.cls := findClass_of_methodNamed B.named
  have hlocks := B.notSynchronized
  have hS : qS (fun q => q = h0 ∨ q = h1 ∨ q = h2) s.heap s.heap [] := qS.rf
  have hl := lv_entry ([.ref h0, .int (nI a), .int t]) (n := 4) (Nat.le_of_ble_eq_true rfl)
  rw [lg_entry_eq]
  generalize (lg_sl ([.ref h0, .int (nI a), .int t]) ++ List.replicate (4 - (lg_sl ([.ref h0, .int (nI a), .int t])).length) Slot.unset).toArray = ls at hl ⊢
  have hin1 : ∀ w ∈ wsX10, w ∈ wsX1_insert := by decide +kernel
  have hdone : ∀ (p9 : Nat) (F G : Nat → Int32) (H : Heap) (locs : List Loc) (ls : Array Slot), p9 ≤ r.length → q_pl r a t r.length = p9 → (∀ j : Nat, j < p9 → F j = f j ∧ G j = g j) → (∀ j : Nat, p9 < j → j ≤ r.length → F j = f (j - 1) ∧ G j = g (j - 1)) → va_at dd vwCl (h0, .inr (1, [.ref h1, .ref h2, .int (nI r.length)])) H → va_at dd vwCl (h1, .inl (ga 0, q, .inl F)) H → va_at dd vwCl (h2, .inl (ga 0, q, .inl G)) H → qS (fun q => q = h0 ∨ q = h1 ∨ q = h2) s.heap H locs → lv_has ls 4 [(3, .int (nI p9)), (0, .ref h0), (1, .int (nI a)), (2, .int t)] → W p l e (headSpec wsX1_insert ({ frames := 1, cells := 0, slots := 0, locals := 23 })).room s m (([.ref h0, .int (nI a), .int t] : List Value).toArray) below meth c H locs 0 0 (MQ below (qQi (fun v H => v = nI (q_pl r a t r.length) ∧ qRow dd ga q h0 h1 h2 (q_ins r a t) H) (fun q => q = h0 ∨ q = h1 ∨ q = h2)) (([.ref h0, .int (nI a), .int t] : List Value).toArray) s 0 0 (fun q => q = h0 ∨ q = h1 ∨ q = h2)) (F0 m 81 ls []) := by
    intro p9 F G H locs ls hp he hi1 hi2 hP hF hG hS hl
    refine lv_aload_n hx hb dX1_insert_81 rfl (lv_at hl 1 rfl) ?_
    refine qr_get (ci := 1) (C := RX1) (T := TX1) (N := 3) hx hb hts hin1 hown hK hP rfl 0 (by decide) (hts (.fieldLink RX1 9 "QuorumLock$Row" "waitingNodes" "[I") (by decide +kernel)) rfl dX1_insert_82 ?_
    refine lv_iload_n hx hb dX1_insert_85 rfl (lv_at hl 0 rfl) ?_
    refine lv_iload_n hx hb dX1_insert_86 rfl (lv_at hl 2 rfl) ?_
    refine qr_iast hx hb hK hF hS (Or.inr (Or.inl rfl)) p9 (by omega) (by omega) rfl dX1_insert_87 (fun H locs hz9 ho9 hat9 hS => ?_)
    have hF := hat9
    have hP := qa_kept hP (ho9 _ n01)
    have hG := qa_kept hG (ho9 _ n12.symm)
    refine lv_aload_n hx hb dX1_insert_88 rfl (lv_at hl 1 rfl) ?_
    refine qr_get (ci := 1) (C := RX1) (T := TX1) (N := 3) hx hb hts hin1 hown hK hP rfl 1 (by decide) (hts (.fieldLink RX1 15 "QuorumLock$Row" "waitingTimes" "[I") (by decide +kernel)) rfl dX1_insert_89 ?_
    refine lv_iload_n hx hb dX1_insert_92 rfl (lv_at hl 0 rfl) ?_
    refine lv_iload_n hx hb dX1_insert_93 rfl (lv_at hl 3 rfl) ?_
    refine qr_iast hx hb hK hG hS (Or.inr (Or.inr rfl)) p9 (by omega) (by omega) rfl dX1_insert_94 (fun H locs hz9 ho9 hat9 hS => ?_)
    have hG := hat9
    have hP := qa_kept hP (ho9 _ n02)
    have hF := qa_kept hF (ho9 _ n12)
    refine lv_aload_n hx hb dX1_insert_95 rfl (lv_at hl 1 rfl) ?_
    refine lv_dup hx hb dX1_insert_96 rfl ?_
    refine qr_get (ci := 1) (C := RX1) (T := TX1) (N := 3) hx hb hts hin1 hown hK hP rfl 2 (by decide) (hts (.fieldLink RX1 18 "QuorumLock$Row" "length" "I") (by decide +kernel)) rfl dX1_insert_97 ?_
    refine lv_iconst (v := 1) hx hb dX1_insert_100 (by decide) ?_
    refine lv_iadd hx hb dX1_insert_101 ?_
    refine q_ti (y := nI (r.length + 1)) (nI_1 _) ?_
    refine qr_put (ci := 1) (C := RX1) (T := TX1) (N := 3) hx hb hts hin1 tyX1 tyX1_ok nmX1 hown hK hP hS (Or.inl rfl) rfl 2 (by decide) (hts (.fieldLink RX1 18 "QuorumLock$Row" "length" "I") (by decide +kernel)) rfl rfl rfl (Nat.le_of_ble_eq_true rfl) dX1_insert_102 (fun H locs hz9 ho9 hat9 hS => ?_)
    have hP : va_at dd vwCl (h0, .inr (1, [.ref h1, .ref h2, .int (nI (r.length + 1))])) H := hat9
    have hF := qa_kept hF (ho9 _ n01.symm)
    have hG := qa_kept hG (ho9 _ n02.symm)
    refine lv_iload_n hx hb dX1_insert_105 rfl (lv_at hl 0 rfl) ?_
    refine q_iret hx hb hr hlocks hS ⟨by rw [he], upd F p9 (nI a), upd G p9 t, by rw [q_ins_len]; exact hP, hF, hG, fun j x hj => ?_⟩ dX1_insert_106
    rcases q_ins_get hj with ⟨h1, h2⟩ | ⟨h1, h2⟩ | ⟨h1, h2⟩
    · rw [he] at h1
      have := hJ j x h2
      have h3 := hi1 j h1
      exact ⟨by simp [upd, Nat.ne_of_lt h1, h3.1, this.1], by simp [upd, Nat.ne_of_lt h1, h3.2, this.2]⟩
    · rw [he] at h1
      subst h1 h2
      exact ⟨by simp [upd], by simp [upd]⟩
    · rw [he] at h1
      have h4 := (List.getElem?_eq_some_iff.mp h2).1
      have := hJ (j - 1) x h2
      have h3 := hi2 j h1 (by omega)
      exact ⟨by simp [upd, Nat.ne_of_gt h1, h3.1, this.1], by simp [upd, Nat.ne_of_gt h1, h3.2, this.2]⟩
  have hloop : ∀ (p9 : Nat) (F G : Nat → Int32) (H : Heap) (locs : List Loc) (ls : Array Slot), p9 ≤ r.length → q_pl r a t r.length = q_pl r a t p9 → (∀ j : Nat, j < p9 → F j = f j ∧ G j = g j) → (∀ j : Nat, p9 < j → j ≤ r.length → F j = f (j - 1) ∧ G j = g (j - 1)) → va_at dd vwCl (h0, .inr (1, [.ref h1, .ref h2, .int (nI r.length)])) H → va_at dd vwCl (h1, .inl (ga 0, q, .inl F)) H → va_at dd vwCl (h2, .inl (ga 0, q, .inl G)) H → qS (fun q => q = h0 ∨ q = h1 ∨ q = h2) s.heap H locs → lv_has ls 4 [(3, .int (nI p9)), (0, .ref h0), (1, .int (nI a)), (2, .int t)] → W p l e (headSpec wsX1_insert ({ frames := 1, cells := 0, slots := 0, locals := 23 })).room s m (([.ref h0, .int (nI a), .int t] : List Value).toArray) below meth c H locs 0 0 (MQ below (qQi (fun v H => v = nI (q_pl r a t r.length) ∧ qRow dd ga q h0 h1 h2 (q_ins r a t) H) (fun q => q = h0 ∨ q = h1 ∨ q = h2)) (([.ref h0, .int (nI a), .int t] : List Value).toArray) s 0 0 (fun q => q = h0 ∨ q = h1 ∨ q = h2)) (F0 m 19 ls []) := by
    intro p9
    induction p9 with
    | zero =>
      intro F G H locs ls hp he hi1 hi2 hP hF hG hS hl
      refine lv_iload_n hx hb dX1_insert_19 rfl (lv_at hl 0 rfl) ?_
      refine lv_if_le (tgt := 81) hx hb dX1_insert_20 (by decide) (fun c_20 => ?_) (fun c_20 => absurd (by rw [nI_0]; decide) c_20)
      exact hdone 0 F G H locs ls hp he hi1 hi2 hP hF hG hS (lv_sub hl [0, 1, 2, 3] rfl)
    | succ p9 ih =>
      intro F G H locs ls hp he hi1 hi2 hP hF hG hS hl
      have hx9 := q_gd (d := (0, 0)) (show p9 < r.length by omega)
      have hm9 := hr31 _ (List.mem_of_getElem? hx9)
      have hj9 := hJ p9 _ hx9
      have hf9 := hi1 p9 (by omega)
      refine lv_iload_n hx hb dX1_insert_19 rfl (lv_at hl 0 rfl) ?_
      refine lv_if_le (tgt := 81) hx hb dX1_insert_20 (by decide) (fun c_20 => absurd c_20 (nI_nle (by omega) (by omega))) (fun c_20 => ?_)
      refine lv_iload_n hx hb dX1_insert_23 rfl (lv_at hl 2 rfl) ?_
      refine lv_iload_n hx hb dX1_insert_24 rfl (lv_at hl 3 rfl) ?_
      refine lv_aload_n hx hb dX1_insert_25 rfl (lv_at hl 1 rfl) ?_
      refine qr_get (ci := 1) (C := RX1) (T := TX1) (N := 3) hx hb hts hin1 hown hK hP rfl 0 (by decide) (hts (.fieldLink RX1 9 "QuorumLock$Row" "waitingNodes" "[I") (by decide +kernel)) rfl dX1_insert_26 ?_
      refine lv_iload_n hx hb dX1_insert_29 rfl (lv_at hl 0 rfl) ?_
      refine lv_iconst (v := 1) hx hb dX1_insert_30 (by decide) ?_
      refine lv_isub hx hb dX1_insert_31 ?_
      refine q_ti (y := nI p9) (nI_pred _) ?_
      refine qr_iald (v := (F p9)) hx hb hK hF p9 (by omega) (by omega) rfl rfl dX1_insert_32 ?_
      refine lv_aload_n hx hb dX1_insert_33 rfl (lv_at hl 1 rfl) ?_
      refine qr_get (ci := 1) (C := RX1) (T := TX1) (N := 3) hx hb hts hin1 hown hK hP rfl 1 (by decide) (hts (.fieldLink RX1 15 "QuorumLock$Row" "waitingTimes" "[I") (by decide +kernel)) rfl dX1_insert_34 ?_
      refine lv_iload_n hx hb dX1_insert_37 rfl (lv_at hl 0 rfl) ?_
      refine lv_iconst (v := 1) hx hb dX1_insert_38 (by decide) ?_
      refine lv_isub hx hb dX1_insert_39 ?_
      refine q_ti (y := nI p9) (nI_pred _) ?_
      refine qr_iald (v := (G p9)) hx hb hK hG p9 (by omega) (by omega) rfl rfl dX1_insert_40 ?_
      refine qc_i (va_runSN (As := [.int (nI a), .int t, .int (F p9), .int (G p9)]) (rest := []) (host := "QuorumLock") ⟨hx, hb, hml, hown, hts⟩ (c_X4_isBefore l dd ga (nI a) t (F p9) (G p9)) ⟨va_cnB 4 hts gX1_insert_X4_isBefore_n22 rfl rfl rfl hK.2.1 (hts (.initialized RX4) (by decide +kernel)) (by decide +kernel) ⟨Nat.le_of_ble_eq_true rfl, Nat.le_of_ble_eq_true rfl⟩, hts (.static yX4_isBefore) (by decide +kernel), trivial⟩ (qpreS hK trivial) rfl rfl hl.1 rfl (lv_room (Nat.le_of_ble_eq_true rfl)) dX1_insert_41 ⟨Nat.zero_le _, Nat.zero_le _⟩) hS (fun q h => h.elim) (fun v41 H locs hp9 hz9 ho9 hS => ?_)
      rw [hf9.1, hf9.2, hj9.1, hj9.2] at hp9
      have hP := qa_kept hP (ho9 _ (fun h => h))
      have hF := qa_kept hF (ho9 _ (fun h => h))
      have hG := qa_kept hG (ho9 _ (fun h => h))
      refine lv_if_eq (tgt := 81) hx hb dX1_insert_44 (by decide) (fun c_44 => ?_) (fun c_44 => ?_)
      · have hb9 : ¬ q_bef t a (r.getD p9 (0, 0)).2 (r.getD p9 (0, 0)).1 = true := fun h => by rw [if_pos ((q_befI ha hm9).mpr h)] at hp9; rw [hp9] at c_44; exact absurd c_44 (by decide)
        exact hdone (p9 + 1) F G _ _ ls hp (by rw [he, q_pl, if_neg hb9]) hi1 hi2 hP hF hG hS (lv_sub hl [0, 1, 2, 3] rfl)
      · have hb9 : q_bef t a (r.getD p9 (0, 0)).2 (r.getD p9 (0, 0)).1 = true := by
          rcases hh : q_bef t a (r.getD p9 (0, 0)).2 (r.getD p9 (0, 0)).1 with _ | _
          · rw [if_neg (fun h => by rw [(q_befI ha hm9).mp h] at hh; cases hh)] at hp9; exact absurd hp9 c_44
          · rfl
        refine lv_aload_n hx hb dX1_insert_47 rfl (lv_at hl 1 rfl) ?_
        refine qr_get (ci := 1) (C := RX1) (T := TX1) (N := 3) hx hb hts hin1 hown hK hP rfl 0 (by decide) (hts (.fieldLink RX1 9 "QuorumLock$Row" "waitingNodes" "[I") (by decide +kernel)) rfl dX1_insert_48 ?_
        refine lv_iload_n hx hb dX1_insert_51 rfl (lv_at hl 0 rfl) ?_
        refine lv_aload_n hx hb dX1_insert_52 rfl (lv_at hl 1 rfl) ?_
        refine qr_get (ci := 1) (C := RX1) (T := TX1) (N := 3) hx hb hts hin1 hown hK hP rfl 0 (by decide) (hts (.fieldLink RX1 9 "QuorumLock$Row" "waitingNodes" "[I") (by decide +kernel)) rfl dX1_insert_53 ?_
        refine lv_iload_n hx hb dX1_insert_56 rfl (lv_at hl 0 rfl) ?_
        refine lv_iconst (v := 1) hx hb dX1_insert_57 (by decide) ?_
        refine lv_isub hx hb dX1_insert_58 ?_
        refine q_ti (y := nI p9) (nI_pred _) ?_
        refine qr_iald (v := (F p9)) hx hb hK hF p9 (by omega) (by omega) rfl rfl dX1_insert_59 ?_
        refine qr_iast hx hb hK hF hS (Or.inr (Or.inl rfl)) (p9 + 1) (by omega) (by omega) rfl dX1_insert_60 (fun H locs hz9 ho9 hat9 hS => ?_)
        have hF := hat9
        have hP := qa_kept hP (ho9 _ n01)
        have hG := qa_kept hG (ho9 _ n12.symm)
        refine lv_aload_n hx hb dX1_insert_61 rfl (lv_at hl 1 rfl) ?_
        refine qr_get (ci := 1) (C := RX1) (T := TX1) (N := 3) hx hb hts hin1 hown hK hP rfl 1 (by decide) (hts (.fieldLink RX1 15 "QuorumLock$Row" "waitingTimes" "[I") (by decide +kernel)) rfl dX1_insert_62 ?_
        refine lv_iload_n hx hb dX1_insert_65 rfl (lv_at hl 0 rfl) ?_
        refine lv_aload_n hx hb dX1_insert_66 rfl (lv_at hl 1 rfl) ?_
        refine qr_get (ci := 1) (C := RX1) (T := TX1) (N := 3) hx hb hts hin1 hown hK hP rfl 1 (by decide) (hts (.fieldLink RX1 15 "QuorumLock$Row" "waitingTimes" "[I") (by decide +kernel)) rfl dX1_insert_67 ?_
        refine lv_iload_n hx hb dX1_insert_70 rfl (lv_at hl 0 rfl) ?_
        refine lv_iconst (v := 1) hx hb dX1_insert_71 (by decide) ?_
        refine lv_isub hx hb dX1_insert_72 ?_
        refine q_ti (y := nI p9) (nI_pred _) ?_
        refine qr_iald (v := (G p9)) hx hb hK hG p9 (by omega) (by omega) rfl rfl dX1_insert_73 ?_
        refine qr_iast hx hb hK hG hS (Or.inr (Or.inr rfl)) (p9 + 1) (by omega) (by omega) rfl dX1_insert_74 (fun H locs hz9 ho9 hat9 hS => ?_)
        have hG := hat9
        have hP := qa_kept hP (ho9 _ n02)
        have hF := qa_kept hF (ho9 _ n12)
        refine lv_iinc (v := nI p9) (lv' := [(3, .int (nI p9)), (0, .ref h0), (1, .int (nI a)), (2, .int t)]) hx hb dX1_insert_75 hl (k := 0) rfl (pk_m1 _) (by decide) rfl (fun ls hl => ?_)
        refine lv_goto (tgt := 19) hx hb dX1_insert_78 (by decide) ?_
        refine ih (upd F (p9 + 1) (F p9)) (upd G (p9 + 1) (G p9)) _ _ ls (by omega) (by rw [he, q_pl, if_pos hb9]) (fun j hj => ?_) (fun j hj1 hj2 => ?_) hP hF hG hS (lv_sub hl [0, 1, 2, 3] rfl)
        · have := hi1 j (by omega)
          simp only [upd, if_neg (show ¬ j = p9 + 1 by omega)]
          exact this
        · rcases Nat.lt_or_ge (p9 + 1) j with h | h
          · have := hi2 j h hj2
            simp only [upd, if_neg (show ¬ j = p9 + 1 by omega)]
            exact this
          · have : j = p9 + 1 := by omega
            subst this
            simp only [upd, if_true, Nat.add_sub_cancel]
            exact hf9
  refine lv_aload_n hx hb dX1_insert_0 rfl (lv_at hl 0 rfl) ?_
  refine qr_get (ci := 1) (C := RX1) (T := TX1) (N := 3) hx hb hts hin1 hown hK hP rfl 2 (by decide) (hts (.fieldLink RX1 18 "QuorumLock$Row" "length" "I") (by decide +kernel)) rfl dX1_insert_1 ?_
  refine lv_aload_n hx hb dX1_insert_4 rfl (lv_at hl 0 rfl) ?_
  refine qr_get (ci := 1) (C := RX1) (T := TX1) (N := 3) hx hb hts hin1 hown hK hP rfl 0 (by decide) (hts (.fieldLink RX1 9 "QuorumLock$Row" "waitingNodes" "[I") (by decide +kernel)) rfl dX1_insert_5 ?_
  refine qr_alen hx hb hK hF dX1_insert_8 ?_
  refine lv_icmp_lt (tgt := 14) hx hb dX1_insert_9 (by decide) (fun c_9 => ?_) (fun c_9 => absurd (nI_lt hrq hq) c_9)
  refine lv_aload_n hx hb dX1_insert_14 rfl (lv_at hl 0 rfl) ?_
  refine qr_get (ci := 1) (C := RX1) (T := TX1) (N := 3) hx hb hts hin1 hown hK hP rfl 2 (by decide) (hts (.fieldLink RX1 18 "QuorumLock$Row" "length" "I") (by decide +kernel)) rfl dX1_insert_15 ?_
  refine lv_istore_n (lv' := [(3, .int (nI r.length)), (0, .ref h0), (1, .int (nI a)), (2, .int t)]) hx hb dX1_insert_18 rfl hl (by decide) rfl (fun ls hl => ?_)
  exact hloop r.length f g _ _ ls (Nat.le_refl _) rfl (fun j _ => ⟨rfl, rfl⟩) (fun j h1 h2 => by omega) hP hF hG hS (lv_sub hl [0, 1, 2, 3] rfl)
set_option maxHeartbeats 4000000 in
set_option maxRecDepth 100000 in
/-- Row.removeFirst -/
theorem c_X1_removeFirst (l : Launch) (dd : va_G) (ga : Nat → ClassId) (q h0 h1 h2 : Nat) (x0 : Nat × Int32) (r' : List (Nat × Int32)) (hq : q < 2 ^ 31) (hrq : r'.length < q) (n01 : h0 ≠ h1) (n02 : h0 ≠ h2) (n12 : h1 ≠ h2) : Met l yX1_removeFirst wsX1_removeFirst ({ frames := 1, cells := 0, slots := 0, locals := 21 }) (qPc dd ga [.ref h0] (fun H => qRow dd ga q h0 h1 h2 (x0 :: r') H)) (qQv (fun H => qRow dd ga q h0 h1 h2 r' H) (fun q => q = h0 ∨ q = h1 ∨ q = h2)) 0 0 (fun q => q = h0 ∨ q = h1 ∨ q = h2) := by
  refine Met.ofW (cc := cX1_removeFirst) (maxL := 2) (ret := none) (by decide) rfl ?_
  intro p e s m args below meth c s₁ B hml hv
  obtain ⟨rfl, ⟨f, g, hP, hF, hG, hJ⟩, hK⟩ := hv
  have hx := B.exec
  have hb := B.bytes
  have hr := B.returns
  have hts := atoms_spec (ws := wsX1_removeFirst) B.pre
  have hown : s.vm.findClass RX1 = some m.cls := findClass_of_methodNamed B.named
  have hlocks := B.notSynchronized
  have hS : qS (fun q => q = h0 ∨ q = h1 ∨ q = h2) s.heap s.heap [] := qS.rf
  have hl := lv_entry ([.ref h0]) (n := 2) (Nat.le_of_ble_eq_true rfl)
  rw [lg_entry_eq]
  generalize (lg_sl ([.ref h0]) ++ List.replicate (2 - (lg_sl ([.ref h0])).length) Slot.unset).toArray = ls at hl ⊢
  have hin1 : ∀ w ∈ wsX10, w ∈ wsX1_removeFirst := by decide +kernel
  have hP : va_at dd vwCl (h0, .inr (1, [.ref h1, .ref h2, .int (nI (r'.length + 1))])) s.heap := hP
  have hloop : ∀ (c9 i9 : Nat) (F G : Nat → Int32) (H : Heap) (locs : List Loc) (ls : Array Slot), i9 + c9 = r'.length → (∀ j : Nat, j < i9 → F j = f (j + 1) ∧ G j = g (j + 1)) → (∀ j : Nat, i9 ≤ j → F j = f j ∧ G j = g j) → va_at dd vwCl (h0, .inr (1, [.ref h1, .ref h2, .int (nI (r'.length + 1))])) H → va_at dd vwCl (h1, .inl (ga 0, q, .inl F)) H → va_at dd vwCl (h2, .inl (ga 0, q, .inl G)) H → qS (fun q => q = h0 ∨ q = h1 ∨ q = h2) s.heap H locs → lv_has ls 2 [(1, .int (nI (i9 + 1))), (0, .ref h0)] → W p l e (headSpec wsX1_removeFirst ({ frames := 1, cells := 0, slots := 0, locals := 21 })).room s m (([.ref h0] : List Value).toArray) below meth c H locs 0 0 (MQ below (qQv (fun H => qRow dd ga q h0 h1 h2 r' H) (fun q => q = h0 ∨ q = h1 ∨ q = h2)) (([.ref h0] : List Value).toArray) s 0 0 (fun q => q = h0 ∨ q = h1 ∨ q = h2)) (F0 m 2 ls []) := by
    intro c9
    induction c9 with
    | zero =>
      intro i9 F G H locs ls hc hi1 hi2 hP hF hG hS hl
      refine lv_iload_n hx hb dX1_removeFirst_2 rfl (lv_at hl 0 rfl) ?_
      refine lv_aload_n hx hb dX1_removeFirst_3 rfl (lv_at hl 1 rfl) ?_
      refine qr_get (ci := 1) (C := RX1) (T := TX1) (N := 3) hx hb hts hin1 hown hK hP rfl 2 (by decide) (hts (.fieldLink RX1 18 "QuorumLock$Row" "length" "I") (by decide +kernel)) rfl dX1_removeFirst_4 ?_
      refine lv_icmp_ge (tgt := 44) hx hb dX1_removeFirst_7 (by decide) (fun c_7 => ?_) (fun c_7 => absurd (nI_le (show r'.length + 1 ≤ i9 + 1 by omega) (by omega)) c_7)
      refine lv_aload_n hx hb dX1_removeFirst_44 rfl (lv_at hl 1 rfl) ?_
      refine lv_aload_n hx hb dX1_removeFirst_45 rfl (lv_at hl 1 rfl) ?_
      refine qr_get (ci := 1) (C := RX1) (T := TX1) (N := 3) hx hb hts hin1 hown hK hP rfl 2 (by decide) (hts (.fieldLink RX1 18 "QuorumLock$Row" "length" "I") (by decide +kernel)) rfl dX1_removeFirst_46 ?_
      refine lv_iconst (v := 1) hx hb dX1_removeFirst_49 (by decide) ?_
      refine lv_isub hx hb dX1_removeFirst_50 ?_
      refine q_ti (y := nI r'.length) (nI_pred _) ?_
      refine lv_iconst (v := 0) hx hb dX1_removeFirst_51 (by decide) ?_
      refine va_mmax (x := nI r'.length) (y := 0) hx hb (by rw [hml]; exact hl.1.symm) hown (hts (.methodLink RX1 26 Lib.Math.max.name) (by decide +kernel)) (hts (.static Lib.Math.max.name) (by decide +kernel)) (hts (.initialized "java/lang/Math") (by decide +kernel)) (hts (.code Lib.Math.max.name Lib.Math.max.code 2 (some .int)) (by decide +kernel)) (Nat.le_of_ble_eq_true rfl) (Nat.le_of_ble_eq_true rfl) (Nat.zero_le _) (Nat.zero_le _) dX1_removeFirst_52 ?_
      refine q_ti (y := nI r'.length) (if_neg (nI_pos (by omega))) ?_
      refine qr_put (ci := 1) (C := RX1) (T := TX1) (N := 3) hx hb hts hin1 tyX1 tyX1_ok nmX1 hown hK hP hS (Or.inl rfl) rfl 2 (by decide) (hts (.fieldLink RX1 18 "QuorumLock$Row" "length" "I") (by decide +kernel)) rfl rfl rfl (Nat.le_of_ble_eq_true rfl) dX1_removeFirst_55 (fun H locs hz9 ho9 hat9 hS => ?_)
      have hP : va_at dd vwCl (h0, .inr (1, [.ref h1, .ref h2, .int (nI r'.length)])) H := hat9
      have hF := qa_kept hF (ho9 _ n01.symm)
      have hG := qa_kept hG (ho9 _ n02.symm)
      refine q_vret hx hb hr hlocks hS ⟨F, G, hP, hF, hG, fun j x hj => ?_⟩ dX1_removeFirst_58
      have h1 := (List.getElem?_eq_some_iff.mp hj).1
      have h2 := hi1 j (by omega)
      have h3 := hJ (j + 1) x (by rw [List.getElem?_cons_succ]; exact hj)
      exact ⟨h2.1.trans h3.1, h2.2.trans h3.2⟩
    | succ c9 ih =>
      intro i9 F G H locs ls hc hi1 hi2 hP hF hG hS hl
      refine lv_iload_n hx hb dX1_removeFirst_2 rfl (lv_at hl 0 rfl) ?_
      refine lv_aload_n hx hb dX1_removeFirst_3 rfl (lv_at hl 1 rfl) ?_
      refine qr_get (ci := 1) (C := RX1) (T := TX1) (N := 3) hx hb hts hin1 hown hK hP rfl 2 (by decide) (hts (.fieldLink RX1 18 "QuorumLock$Row" "length" "I") (by decide +kernel)) rfl dX1_removeFirst_4 ?_
      refine lv_icmp_ge (tgt := 44) hx hb dX1_removeFirst_7 (by decide) (fun c_7 => absurd c_7 (nI_ge (by omega) (by omega))) (fun c_7 => ?_)
      refine lv_aload_n hx hb dX1_removeFirst_10 rfl (lv_at hl 1 rfl) ?_
      refine qr_get (ci := 1) (C := RX1) (T := TX1) (N := 3) hx hb hts hin1 hown hK hP rfl 0 (by decide) (hts (.fieldLink RX1 9 "QuorumLock$Row" "waitingNodes" "[I") (by decide +kernel)) rfl dX1_removeFirst_11 ?_
      refine lv_iload_n hx hb dX1_removeFirst_14 rfl (lv_at hl 0 rfl) ?_
      refine lv_iconst (v := 1) hx hb dX1_removeFirst_15 (by decide) ?_
      refine lv_isub hx hb dX1_removeFirst_16 ?_
      refine q_ti (y := nI i9) (nI_pred _) ?_
      refine lv_aload_n hx hb dX1_removeFirst_17 rfl (lv_at hl 1 rfl) ?_
      refine qr_get (ci := 1) (C := RX1) (T := TX1) (N := 3) hx hb hts hin1 hown hK hP rfl 0 (by decide) (hts (.fieldLink RX1 9 "QuorumLock$Row" "waitingNodes" "[I") (by decide +kernel)) rfl dX1_removeFirst_18 ?_
      refine lv_iload_n hx hb dX1_removeFirst_21 rfl (lv_at hl 0 rfl) ?_
      refine qr_iald (v := (F (i9 + 1))) hx hb hK hF (i9 + 1) (by omega) (by omega) rfl rfl dX1_removeFirst_22 ?_
      refine qr_iast hx hb hK hF hS (Or.inr (Or.inl rfl)) i9 (by omega) (by omega) rfl dX1_removeFirst_23 (fun H locs hz9 ho9 hat9 hS => ?_)
      have hF := hat9
      have hP := qa_kept hP (ho9 _ n01)
      have hG := qa_kept hG (ho9 _ n12.symm)
      refine lv_aload_n hx hb dX1_removeFirst_24 rfl (lv_at hl 1 rfl) ?_
      refine qr_get (ci := 1) (C := RX1) (T := TX1) (N := 3) hx hb hts hin1 hown hK hP rfl 1 (by decide) (hts (.fieldLink RX1 15 "QuorumLock$Row" "waitingTimes" "[I") (by decide +kernel)) rfl dX1_removeFirst_25 ?_
      refine lv_iload_n hx hb dX1_removeFirst_28 rfl (lv_at hl 0 rfl) ?_
      refine lv_iconst (v := 1) hx hb dX1_removeFirst_29 (by decide) ?_
      refine lv_isub hx hb dX1_removeFirst_30 ?_
      refine q_ti (y := nI i9) (nI_pred _) ?_
      refine lv_aload_n hx hb dX1_removeFirst_31 rfl (lv_at hl 1 rfl) ?_
      refine qr_get (ci := 1) (C := RX1) (T := TX1) (N := 3) hx hb hts hin1 hown hK hP rfl 1 (by decide) (hts (.fieldLink RX1 15 "QuorumLock$Row" "waitingTimes" "[I") (by decide +kernel)) rfl dX1_removeFirst_32 ?_
      refine lv_iload_n hx hb dX1_removeFirst_35 rfl (lv_at hl 0 rfl) ?_
      refine qr_iald (v := (G (i9 + 1))) hx hb hK hG (i9 + 1) (by omega) (by omega) rfl rfl dX1_removeFirst_36 ?_
      refine qr_iast hx hb hK hG hS (Or.inr (Or.inr rfl)) i9 (by omega) (by omega) rfl dX1_removeFirst_37 (fun H locs hz9 ho9 hat9 hS => ?_)
      have hG := hat9
      have hP := qa_kept hP (ho9 _ n02)
      have hF := qa_kept hF (ho9 _ n12)
      refine lv_iinc (v := nI (i9 + 1 + 1)) (lv' := [(1, .int (nI (i9 + 1 + 1))), (0, .ref h0)]) hx hb dX1_removeFirst_38 hl (k := 0) rfl (nI_1 _) (by decide) rfl (fun ls hl => ?_)
      refine lv_goto (tgt := 2) hx hb dX1_removeFirst_41 (by decide) ?_
      refine ih (i9 + 1) (upd F i9 (F (i9 + 1))) (upd G i9 (G (i9 + 1))) _ _ ls (by omega) (fun j hj => ?_) (fun j hj => ?_) hP hF hG hS (lv_sub hl [0, 1] rfl)
      · rcases Nat.lt_or_ge j i9 with h | h
        · have := hi1 j h
          simp only [upd, if_neg (Nat.ne_of_lt h)]
          exact this
        · have : j = i9 := by omega
          subst this
          simp only [upd, if_true]
          exact hi2 (j + 1) (by omega)
      · have := hi2 j (by omega)
        simp only [upd, if_neg (show ¬ j = i9 by omega)]
        exact this
  refine lv_iconst (v := nI 1) hx hb dX1_removeFirst_0 (by decide) ?_
  refine lv_istore_n (lv' := [(1, .int (nI 1)), (0, .ref h0)]) hx hb dX1_removeFirst_1 rfl hl (by decide) rfl (fun ls hl => ?_)
  exact hloop r'.length 0 f g _ _ ls (by omega) (fun j h => by omega) (fun j _ => ⟨rfl, rfl⟩) hP hF hG hS (lv_sub hl [0, 1] rfl)
