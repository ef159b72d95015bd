/-! the reference's rows -/
theorem qRp.srw {n : Nat} {σ : qSt} {ρ ρ' : Nat → Nat → Int32} {i : Nat} {r : List (Nat × Int32)} (h : qRp n σ ρ) (e0 : ∀ a j, a ≠ 10 → a ≠ 11 → a ≠ 12 → ρ' a j = ρ a j) (e1 : ∀ j, j ≠ i → ρ' 10 j = ρ 10 j) (e2 : ∀ a j, (a = 11 ∨ a = 12) → ¬ (64 * i ≤ j ∧ j < 64 * i + 64) → ρ' a j = ρ a j) (e3 : ρ' 10 i = nI r.length) (e4 : r.length ≤ 32) (e5 : ∀ (j : Nat) (x : Nat × Int32), r[j]? = some x → ρ' 11 (64 * i + j) = nI x.1 ∧ ρ' 12 (64 * i + j) = x.2) : qRp n (s_rw σ i r) ρ' := by
  refine ⟨fun g j hg hj => ?_, fun j hj => ?_, fun j hj => ?_, fun f9 t9 hf9 ht9 => ?_, h.2.2.2.2⟩
  · have := q_ai_n hg
    rw [e0 _ _ (by omega) (by omega) (by omega)]; exact h.1 g j hg hj
  · rw [e0 7 j (by omega) (by omega) (by omega), e0 8 j (by omega) (by omega) (by omega)]; exact h.2.1 j hj
  · show _ = nI (va_up σ.2.2.1 i r j).length ∧ (va_up σ.2.2.1 i r j).length ≤ 32 ∧ ∀ (j9 : Nat) (x : Nat × Int32), (va_up σ.2.2.1 i r j)[j9]? = some x → _
    by_cases hc : j = i
    · subst hc
      rw [va_up_self]
      exact ⟨e3, e4, e5⟩
    · rw [va_up_ne _ _ hc]
      have hb := h.2.2.1 j hj
      refine ⟨by rw [e1 j hc]; exact hb.1, hb.2.1, fun j9 x hx => ?_⟩
      have h4 := (List.getElem?_eq_some_iff.mp hx).1
      rw [e2 11 _ (by omega) (by omega), e2 12 _ (by omega) (by omega)]
      exact hb.2.2 j9 x hx
  · rw [e0 13 _ (by omega) (by omega) (by omega)]
    refine ⟨(h.2.2.2.1 f9 t9 hf9 ht9).1, (h.2.2.2.1 f9 t9 hf9 ht9).2.1, fun j9 x9 hx => ?_⟩
    rw [e0 14 _ (by omega) (by omega) (by omega), e0 15 _ (by omega) (by omega) (by omega), e0 16 _ (by omega) (by omega) (by omega)]
    exact (h.2.2.2.1 f9 t9 hf9 ht9).2.2 j9 x9 hx
theorem q_send_tb6 (σ : qSt) (i f t : Nat) (x y v : Int32) : s_send (s_tb σ 6 i v) f t x y = s_tb (s_send σ f t x y) 6 i v := by
  unfold s_send s_tb s_wr
  simp only
  rw [q2_n (show ¬ (0 = 6 ∧ f = i) by omega)]
set_option maxHeartbeats 4000000 in
set_option maxRecDepth 100000 in
/-- X5_line -/
theorem c_X5_line (l : Launch) (dd : va_G) (ga : Nat → ClassId) (n k : Nat) (ar : Nat → Nat) (σ : qSt) (hsq : qSq n k) (hL : qLr ar) (i a : Nat) (hi : i < n) (ha : a < n) (t : Int32) (hrl : (σ.2.2.1 i).length ≤ 16) (hrn : ∀ x ∈ σ.2.2.1 i, x.1 < n) : Met l yX5_line wsX5_line ({ frames := 1, cells := 0, slots := 0, locals := 23 }) (qPc dd ga [.ref (ar 0), .int (nI i), .int (nI a), .int t] (fun H => qR dd ga n k ar σ H)) (qQi (fun v H => v = nI (q_pl (σ.2.2.1 i) a t (σ.2.2.1 i).length) ∧ qR dd ga n k ar (s_rw σ i (q_ins (σ.2.2.1 i) a t)) H) (qAr ar)) 0 0 (qAr ar) := by
  refine Met.ofW (cc := cX5_line) (maxL := 5) (ret := (some .int)) (by decide) rfl ?_
  intro p e s m args below meth c s₁ B hml hv
  obtain ⟨rfl, ⟨ρ, hRp, hW⟩, hK⟩ := hv
  have hx := B.exec
  have hb := B.bytes
  have hr := B.returns
  have hts := atoms_spec (ws := wsX5_line) B.pre
  have hown : s.vm.findClass RX5 = some m.cls := findClass_of_methodNamed B.named
  have hlocks := B.notSynchronized
  have hS : qS (qAr ar) s.heap s.heap [] := qS.rf
  have hl := lv_entry ([.ref (ar 0), .int (nI i), .int (nI a), .int t]) (n := 5) (Nat.le_of_ble_eq_true rfl)
  rw [lg_entry_eq]
  generalize (lg_sl ([.ref (ar 0), .int (nI i), .int (nI a), .int t]) ++ List.replicate (5 - (lg_sl ([.ref (ar 0), .int (nI i), .int (nI a), .int t])).length) Slot.unset).toArray = ls at hl ⊢
  have hin5 : ∀ w ∈ wsX50, w ∈ wsX5_line := by decide +kernel
  have hn1 := hsq.n.1
  have hn16 := hsq.n.2
  have hb9 := hRp.2.2.1 i hi
  generalize hre : σ.2.2.1 i = r at *
  have hdone : ∀ (p9 : Nat) (ρ9 : Nat → Nat → Int32) (H : Heap) (locs : List Loc) (ls : Array Slot), p9 ≤ r.length → q_pl r a t r.length = p9 → (∀ b j : Nat, b ≠ 11 → b ≠ 12 → ρ9 b j = ρ b j) → (∀ b j : Nat, ¬ (64 * i ≤ j ∧ j < 64 * i + 64) → ρ9 b j = ρ b j) → (∀ j : Nat, j < p9 → ρ9 11 (64 * i + j) = ρ 11 (64 * i + j) ∧ ρ9 12 (64 * i + j) = ρ 12 (64 * i + j)) → (∀ j : Nat, p9 < j → j ≤ r.length → ρ9 11 (64 * i + j) = ρ 11 (64 * i + (j - 1)) ∧ ρ9 12 (64 * i + j) = ρ 12 (64 * i + (j - 1))) → qR0 dd ga n k ar ρ9 σ.2.2.2.2 H → qS (qAr ar) s.heap H locs → lv_has ls 5 [(4, .int (nI p9)), (0, .ref (ar 0)), (1, .int (nI i)), (2, .int (nI a)), (3, .int t)] → W p l e (headSpec wsX5_line ({ frames := 1, cells := 0, slots := 0, locals := 23 })).room s m (([.ref (ar 0), .int (nI i), .int (nI a), .int t] : List Value).toArray) below meth c H locs 0 0 (MQ below (qQi (fun v H => v = nI (q_pl r a t r.length) ∧ qR dd ga n k ar (s_rw σ i (q_ins r a t)) H) (qAr ar)) (([.ref (ar 0), .int (nI i), .int (nI a), .int t] : List Value).toArray) s 0 0 (qAr ar)) (F0 m 107 ls []) := by
    intro p9 ρ9 H locs ls hp he h0 h1 h2 h3 hW hS hl
    refine lv_aload_n hx hb dX5_line_107 rfl (lv_at hl 1 rfl) ?_
    refine qr_get (ci := 5) (C := RX5) (T := TX5) (N := 19) hx hb hts hin5 hown hK hW.self rfl 13 (by decide) (hts (.fieldLink RX5 44 "QuorumLockModel" "rowTime" "[I") (by decide +kernel)) rfl dX5_line_108 ?_
    refine lv_bipush (v := nI 64) hx hb dX5_line_111 (by decide) ?_
    refine lv_iload_n hx hb dX5_line_113 rfl (lv_at hl 2 rfl) ?_
    refine lv_imul hx hb dX5_line_114 ?_
    refine q_ti (y := nI (64 * i)) (pk_mul _ _) ?_
    refine lv_iload hx hb dX5_line_115 (lv_at hl 0 rfl) ?_
    refine lv_iadd hx hb dX5_line_117 ?_
    refine q_ti (y := nI (64 * i + p9)) (nI_add _ _) ?_
    refine lv_iload_n hx hb dX5_line_118 rfl (lv_at hl 4 rfl) ?_
    refine qr_iast hx hb hK hW.a12 hS (⟨12, by decide, rfl⟩) (64 * i + p9) (by omega) (by omega) rfl dX5_line_119 (fun H locs hz9 ho9 hat9 hS => ?_)
    have hW := hW.put hL 12 (64 * i + p9) t (by decide) (by decide) ho9 hat9
    refine lv_aload_n hx hb dX5_line_120 rfl (lv_at hl 1 rfl) ?_
    refine qr_get (ci := 5) (C := RX5) (T := TX5) (N := 19) hx hb hts hin5 hown hK hW.self rfl 12 (by decide) (hts (.fieldLink RX5 41 "QuorumLockModel" "rowNode" "[I") (by decide +kernel)) rfl dX5_line_121 ?_
    refine lv_bipush (v := nI 64) hx hb dX5_line_124 (by decide) ?_
    refine lv_iload_n hx hb dX5_line_126 rfl (lv_at hl 2 rfl) ?_
    refine lv_imul hx hb dX5_line_127 ?_
    refine q_ti (y := nI (64 * i)) (pk_mul _ _) ?_
    refine lv_iload hx hb dX5_line_128 (lv_at hl 0 rfl) ?_
    refine lv_iadd hx hb dX5_line_130 ?_
    refine q_ti (y := nI (64 * i + p9)) (nI_add _ _) ?_
    refine lv_iload_n hx hb dX5_line_131 rfl (lv_at hl 3 rfl) ?_
    refine qr_iast hx hb hK hW.a11 hS (⟨11, by decide, rfl⟩) (64 * i + p9) (by omega) (by omega) rfl dX5_line_132 (fun H locs hz9 ho9 hat9 hS => ?_)
    have hW := hW.put hL 11 (64 * i + p9) (nI a) (by decide) (by decide) ho9 hat9
    refine lv_aload_n hx hb dX5_line_133 rfl (lv_at hl 1 rfl) ?_
    refine qr_get (ci := 5) (C := RX5) (T := TX5) (N := 19) hx hb hts hin5 hown hK hW.self rfl 11 (by decide) (hts (.fieldLink RX5 38 "QuorumLockModel" "rows" "[I") (by decide +kernel)) rfl dX5_line_134 ?_
    refine lv_iload_n hx hb dX5_line_137 rfl (lv_at hl 2 rfl) ?_
    refine lv_dup2_11 hx hb dX5_line_138 rfl rfl ?_
    refine qr_iald (v := (nI r.length)) hx hb hK hW.a10 i (by omega) (by omega) rfl (by simp [q2]; rw [h0 10 i (by omega) (by omega)]; exact hb9.1) dX5_line_139 ?_
    refine lv_iconst (v := 1) hx hb dX5_line_140 (by decide) ?_
    refine lv_iadd hx hb dX5_line_141 ?_
    refine q_ti (y := nI (r.length + 1)) (nI_1 _) ?_
    refine qr_iast hx hb hK hW.a10 hS (⟨10, by decide, rfl⟩) i (by omega) (by omega) rfl dX5_line_142 (fun H locs hz9 ho9 hat9 hS => ?_)
    have hW := hW.put hL 10 i (nI (r.length + 1)) (by decide) (by decide) ho9 hat9
    refine lv_iload hx hb dX5_line_143 (lv_at hl 0 rfl) ?_
    refine q_iret hx hb hr hlocks hS ⟨by rw [he], _, ?_, hW⟩ dX5_line_145
    refine hRp.srw (fun b j g1 g2 g3 => ?_) (fun j g1 => ?_) (fun b j g1 g2 => ?_) ?_ (by rw [q_ins_len]; omega) (fun j x hj => ?_)
    · rw [q2_n (by omega), q2_n (by omega), q2_n (by omega)]; exact h0 b j g2 g3
    · rw [q2_n (by omega), q2_n (by omega), q2_n (by omega)]; exact h0 10 j (by omega) (by omega)
    · rw [q2_n (by omega), q2_n (by omega), q2_n (by omega)]; exact h1 b j g2
    · rw [q2_s, q_ins_len]
    · simp only [q2]
      rcases q_ins_get hj with ⟨g1, g2⟩ | ⟨g1, g2⟩ | ⟨g1, g2⟩
      · rw [he] at g1
        have g3 := hb9.2.2 j x g2
        have g4 := h2 j g1
        rw [if_neg (by omega), if_neg (by omega), if_neg (by omega), if_neg (by omega), if_neg (by omega), if_neg (by omega)]
        exact ⟨g4.1.trans g3.1, g4.2.trans g3.2⟩
      · rw [he] at g1
        subst g1 g2
        exact ⟨by simp, by simp⟩
      · rw [he] at g1
        have g5 := (List.getElem?_eq_some_iff.mp g2).1
        have g3 := hb9.2.2 (j - 1) x g2
        have g4 := h3 j g1 (by omega)
        rw [if_neg (by omega), if_neg (by omega), if_neg (by omega), if_neg (by omega), if_neg (by omega), if_neg (by omega)]
        exact ⟨g4.1.trans g3.1, g4.2.trans g3.2⟩
  have hloop : ∀ (p9 : Nat) (ρ9 : Nat → Nat → Int32) (H : Heap) (locs : List Loc) (ls : Array Slot), p9 ≤ r.length → q_pl r a t r.length = q_pl r a t p9 → (∀ b j : Nat, b ≠ 11 → b ≠ 12 → ρ9 b j = ρ b j) → (∀ b j : Nat, ¬ (64 * i ≤ j ∧ j < 64 * i + 64) → ρ9 b j = ρ b j) → (∀ j : Nat, j < p9 → ρ9 11 (64 * i + j) = ρ 11 (64 * i + j) ∧ ρ9 12 (64 * i + j) = ρ 12 (64 * i + j)) → (∀ j : Nat, p9 < j → j ≤ r.length → ρ9 11 (64 * i + j) = ρ 11 (64 * i + (j - 1)) ∧ ρ9 12 (64 * i + j) = ρ 12 (64 * i + (j - 1))) → qR0 dd ga n k ar ρ9 σ.2.2.2.2 H → qS (qAr ar) s.heap H locs → lv_has ls 5 [(4, .int (nI p9)), (0, .ref (ar 0)), (1, .int (nI i)), (2, .int (nI a)), (3, .int t)] → W p l e (headSpec wsX5_line ({ frames := 1, cells := 0, slots := 0, locals := 23 })).room s m (([.ref (ar 0), .int (nI i), .int (nI a), .int t] : List Value).toArray) below meth c H locs 0 0 (MQ below (qQi (fun v H => v = nI (q_pl r a t r.length) ∧ qR dd ga n k ar (s_rw σ i (q_ins r a t)) H) (qAr ar)) (([.ref (ar 0), .int (nI i), .int (nI a), .int t] : List Value).toArray) s 0 0 (qAr ar)) (F0 m 8 ls []) := by
    intro p9
    induction p9 with
    | zero =>
      intro ρ9 H locs ls hp he h0 h1 h2 h3 hW hS hl
      refine lv_iload hx hb dX5_line_8 (lv_at hl 0 rfl) ?_
      refine lv_if_le (tgt := 107) hx hb dX5_line_10 (by decide) (fun c_10 => ?_) (fun c_10 => absurd (by rw [nI_0]; decide) c_10)
      exact hdone 0 ρ9 _ _ ls hp he h0 h1 h2 h3 hW hS (lv_sub hl [0, 1, 2, 3, 4] rfl)
    | succ p9 ih =>
      intro ρ9 H locs ls hp he h0 h1 h2 h3 hW hS hl
      have hx9 := q_gd (d := (0, 0)) (show p9 < r.length by omega)
      have hm9 : (r.getD p9 (0, 0)).1 < 2 ^ 31 := by have := hrn _ (List.mem_of_getElem? hx9); omega
      have hj9 := hb9.2.2 p9 _ hx9
      have hf9 := h2 p9 (by omega)
      refine lv_iload hx hb dX5_line_8 (lv_at hl 0 rfl) ?_
      refine lv_if_le (tgt := 107) hx hb dX5_line_10 (by decide) (fun c_10 => absurd c_10 (nI_nle (by omega) (by omega))) (fun c_10 => ?_)
      refine lv_iload_n hx hb dX5_line_13 rfl (lv_at hl 4 rfl) ?_
      refine lv_iload_n hx hb dX5_line_14 rfl (lv_at hl 3 rfl) ?_
      refine lv_aload_n hx hb dX5_line_15 rfl (lv_at hl 1 rfl) ?_
      refine qr_get (ci := 5) (C := RX5) (T := TX5) (N := 19) hx hb hts hin5 hown hK hW.self rfl 13 (by decide) (hts (.fieldLink RX5 44 "QuorumLockModel" "rowTime" "[I") (by decide +kernel)) rfl dX5_line_16 ?_
      refine lv_bipush (v := nI 64) hx hb dX5_line_19 (by decide) ?_
      refine lv_iload_n hx hb dX5_line_21 rfl (lv_at hl 2 rfl) ?_
      refine lv_imul hx hb dX5_line_22 ?_
      refine q_ti (y := nI (64 * i)) (pk_mul _ _) ?_
      refine lv_iload hx hb dX5_line_23 (lv_at hl 0 rfl) ?_
      refine lv_iadd hx hb dX5_line_25 ?_
      refine q_ti (y := nI (64 * i + (p9 + 1))) (nI_add _ _) ?_
      refine lv_iconst (v := 1) hx hb dX5_line_26 (by decide) ?_
      refine lv_isub hx hb dX5_line_27 ?_
      refine q_ti (y := nI (64 * i + p9)) (nI_pred (64 * i + p9)) ?_
      refine qr_iald (v := (r.getD p9 (0, 0)).2) hx hb hK hW.a12 (64 * i + p9) (by omega) (by omega) rfl (hf9.2.trans hj9.2) dX5_line_28 ?_
      refine lv_aload_n hx hb dX5_line_29 rfl (lv_at hl 1 rfl) ?_
      refine qr_get (ci := 5) (C := RX5) (T := TX5) (N := 19) hx hb hts hin5 hown hK hW.self rfl 12 (by decide) (hts (.fieldLink RX5 41 "QuorumLockModel" "rowNode" "[I") (by decide +kernel)) rfl dX5_line_30 ?_
      refine lv_bipush (v := nI 64) hx hb dX5_line_33 (by decide) ?_
      refine lv_iload_n hx hb dX5_line_35 rfl (lv_at hl 2 rfl) ?_
      refine lv_imul hx hb dX5_line_36 ?_
      refine q_ti (y := nI (64 * i)) (pk_mul _ _) ?_
      refine lv_iload hx hb dX5_line_37 (lv_at hl 0 rfl) ?_
      refine lv_iadd hx hb dX5_line_39 ?_
      refine q_ti (y := nI (64 * i + (p9 + 1))) (nI_add _ _) ?_
      refine lv_iconst (v := 1) hx hb dX5_line_40 (by decide) ?_
      refine lv_isub hx hb dX5_line_41 ?_
      refine q_ti (y := nI (64 * i + p9)) (nI_pred (64 * i + p9)) ?_
      refine qr_iald (v := (nI (r.getD p9 (0, 0)).1)) hx hb hK hW.a11 (64 * i + p9) (by omega) (by omega) rfl (hf9.1.trans hj9.1) dX5_line_42 ?_
      refine qc_i (va_runS (As := [.int t, .int (nI a), .int ((r.getD p9 (0, 0)).2), .int (nI (r.getD p9 (0, 0)).1)]) (rest := []) ⟨hx, hb, hml, hown, hts⟩ (c_X5_isBefore l dd ga t (nI a) (r.getD p9 (0, 0)).2 (nI (r.getD p9 (0, 0)).1)) (va_cwS 4 hts gX5_line_X5_isBefore rfl rfl rfl (by decide +kernel) ⟨Nat.le_of_ble_eq_true rfl, Nat.le_of_ble_eq_true rfl⟩) (qpreS hK trivial) rfl rfl hl.1 rfl (lv_room (Nat.le_of_ble_eq_true rfl)) dX5_line_43 ⟨Nat.zero_le _, Nat.zero_le _⟩) hS (fun q h => h.elim) (fun v43 H locs hp9 hz9 ho9 hS => ?_)
      have e43 : v43 = _ := hp9
      have hW := hW.same (fun q => ho9 q (fun h => h))
      refine lv_if_eq (tgt := 107) hx hb dX5_line_46 (by decide) (fun c_46 => ?_) (fun c_46 => ?_)
      · have hn9 : ¬ q_bef t a (r.getD p9 (0, 0)).2 (r.getD p9 (0, 0)).1 = true := fun h => by rw [if_pos ((q_befI (by omega) hm9).mpr h)] at e43; rw [e43] at c_46; exact absurd c_46 (by decide)
        exact hdone (p9 + 1) ρ9 _ _ ls hp (by rw [he, q_pl, if_neg hn9]) h0 h1 h2 h3 hW hS (lv_sub hl [0, 1, 2, 3, 4] rfl)
      · have hy9 : q_bef t a (r.getD p9 (0, 0)).2 (r.getD p9 (0, 0)).1 = true := Classical.byContradiction fun h => by rw [if_neg (fun h2 => h ((q_befI (by omega) hm9).mp h2))] at e43; exact c_46 e43
        refine lv_aload_n hx hb dX5_line_49 rfl (lv_at hl 1 rfl) ?_
        refine qr_get (ci := 5) (C := RX5) (T := TX5) (N := 19) hx hb hts hin5 hown hK hW.self rfl 13 (by decide) (hts (.fieldLink RX5 44 "QuorumLockModel" "rowTime" "[I") (by decide +kernel)) rfl dX5_line_50 ?_
        refine lv_bipush (v := nI 64) hx hb dX5_line_53 (by decide) ?_
        refine lv_iload_n hx hb dX5_line_55 rfl (lv_at hl 2 rfl) ?_
        refine lv_imul hx hb dX5_line_56 ?_
        refine q_ti (y := nI (64 * i)) (pk_mul _ _) ?_
        refine lv_iload hx hb dX5_line_57 (lv_at hl 0 rfl) ?_
        refine lv_iadd hx hb dX5_line_59 ?_
        refine q_ti (y := nI (64 * i + (p9 + 1))) (nI_add _ _) ?_
        refine lv_aload_n hx hb dX5_line_60 rfl (lv_at hl 1 rfl) ?_
        refine qr_get (ci := 5) (C := RX5) (T := TX5) (N := 19) hx hb hts hin5 hown hK hW.self rfl 13 (by decide) (hts (.fieldLink RX5 44 "QuorumLockModel" "rowTime" "[I") (by decide +kernel)) rfl dX5_line_61 ?_
        refine lv_bipush (v := nI 64) hx hb dX5_line_64 (by decide) ?_
        refine lv_iload_n hx hb dX5_line_66 rfl (lv_at hl 2 rfl) ?_
        refine lv_imul hx hb dX5_line_67 ?_
        refine q_ti (y := nI (64 * i)) (pk_mul _ _) ?_
        refine lv_iload hx hb dX5_line_68 (lv_at hl 0 rfl) ?_
        refine lv_iadd hx hb dX5_line_70 ?_
        refine q_ti (y := nI (64 * i + (p9 + 1))) (nI_add _ _) ?_
        refine lv_iconst (v := 1) hx hb dX5_line_71 (by decide) ?_
        refine lv_isub hx hb dX5_line_72 ?_
        refine q_ti (y := nI (64 * i + p9)) (nI_pred (64 * i + p9)) ?_
        refine qr_iald (v := (r.getD p9 (0, 0)).2) hx hb hK hW.a12 (64 * i + p9) (by omega) (by omega) rfl (hf9.2.trans hj9.2) dX5_line_73 ?_
        refine qr_iast hx hb hK hW.a12 hS (⟨12, by decide, rfl⟩) (64 * i + (p9 + 1)) (by omega) (by omega) rfl dX5_line_74 (fun H locs hz9 ho9 hat9 hS => ?_)
        have hW := hW.put hL 12 (64 * i + (p9 + 1)) ((r.getD p9 (0, 0)).2) (by decide) (by decide) ho9 hat9
        refine lv_aload_n hx hb dX5_line_75 rfl (lv_at hl 1 rfl) ?_
        refine qr_get (ci := 5) (C := RX5) (T := TX5) (N := 19) hx hb hts hin5 hown hK hW.self rfl 12 (by decide) (hts (.fieldLink RX5 41 "QuorumLockModel" "rowNode" "[I") (by decide +kernel)) rfl dX5_line_76 ?_
        refine lv_bipush (v := nI 64) hx hb dX5_line_79 (by decide) ?_
        refine lv_iload_n hx hb dX5_line_81 rfl (lv_at hl 2 rfl) ?_
        refine lv_imul hx hb dX5_line_82 ?_
        refine q_ti (y := nI (64 * i)) (pk_mul _ _) ?_
        refine lv_iload hx hb dX5_line_83 (lv_at hl 0 rfl) ?_
        refine lv_iadd hx hb dX5_line_85 ?_
        refine q_ti (y := nI (64 * i + (p9 + 1))) (nI_add _ _) ?_
        refine lv_aload_n hx hb dX5_line_86 rfl (lv_at hl 1 rfl) ?_
        refine qr_get (ci := 5) (C := RX5) (T := TX5) (N := 19) hx hb hts hin5 hown hK hW.self rfl 12 (by decide) (hts (.fieldLink RX5 41 "QuorumLockModel" "rowNode" "[I") (by decide +kernel)) rfl dX5_line_87 ?_
        refine lv_bipush (v := nI 64) hx hb dX5_line_90 (by decide) ?_
        refine lv_iload_n hx hb dX5_line_92 rfl (lv_at hl 2 rfl) ?_
        refine lv_imul hx hb dX5_line_93 ?_
        refine q_ti (y := nI (64 * i)) (pk_mul _ _) ?_
        refine lv_iload hx hb dX5_line_94 (lv_at hl 0 rfl) ?_
        refine lv_iadd hx hb dX5_line_96 ?_
        refine q_ti (y := nI (64 * i + (p9 + 1))) (nI_add _ _) ?_
        refine lv_iconst (v := 1) hx hb dX5_line_97 (by decide) ?_
        refine lv_isub hx hb dX5_line_98 ?_
        refine q_ti (y := nI (64 * i + p9)) (nI_pred (64 * i + p9)) ?_
        refine qr_iald (v := (nI (r.getD p9 (0, 0)).1)) hx hb hK hW.a11 (64 * i + p9) (by omega) (by omega) rfl (by simp [q2]; exact hf9.1.trans hj9.1) dX5_line_99 ?_
        refine qr_iast hx hb hK hW.a11 hS (⟨11, by decide, rfl⟩) (64 * i + (p9 + 1)) (by omega) (by omega) rfl dX5_line_100 (fun H locs hz9 ho9 hat9 hS => ?_)
        have hW := hW.put hL 11 (64 * i + (p9 + 1)) (nI (r.getD p9 (0, 0)).1) (by decide) (by decide) ho9 hat9
        refine lv_iinc (v := nI p9) (lv' := [(4, .int (nI p9)), (0, .ref (ar 0)), (1, .int (nI i)), (2, .int (nI a)), (3, .int t)]) hx hb dX5_line_101 hl (k := 0) rfl (pk_m1 _) (by decide) rfl (fun ls hl => ?_)
        refine lv_goto (tgt := 8) hx hb dX5_line_104 (by decide) ?_
        refine ih _ _ _ ls (by omega) (by rw [he, q_pl, if_pos hy9]) (fun b j g1 g2 => ?_) (fun b j g1 => ?_) (fun j hj => ?_) (fun j hj1 hj2 => ?_) hW hS (lv_sub hl [0, 1, 2, 3, 4] rfl)
        · rw [q2_n (by omega), q2_n (by omega)]; exact h0 b j g1 g2
        · rw [q2_n (by omega), q2_n (by omega)]; exact h1 b j g1
        · simp only [q2]
          rw [if_neg (by omega), if_neg (by omega), if_neg (by omega), if_neg (by omega)]; exact h2 j (by omega)
        · rcases Nat.lt_or_ge (p9 + 1) j with h | h
          · simp only [q2]
            rw [if_neg (by omega), if_neg (by omega), if_neg (by omega), if_neg (by omega)]; exact h3 j h hj2
          · have : j = p9 + 1 := by omega
            subst this
            simp only [q2, Nat.add_sub_cancel]
            exact ⟨by simp [hj9.1], by simp [hj9.2]⟩
  refine lv_aload_n hx hb dX5_line_0 rfl (lv_at hl 0 rfl) ?_
  refine qr_get (ci := 5) (C := RX5) (T := TX5) (N := 19) hx hb hts hin5 hown hK hW.self rfl 11 (by decide) (hts (.fieldLink RX5 38 "QuorumLockModel" "rows" "[I") (by decide +kernel)) rfl dX5_line_1 ?_
  refine lv_iload_n hx hb dX5_line_4 rfl (lv_at hl 1 rfl) ?_
  refine qr_iald (v := (nI r.length)) hx hb hK hW.a10 i (by omega) (by omega) rfl hb9.1 dX5_line_5 ?_
  refine lv_istore (lv' := [(4, .int (nI r.length)), (0, .ref (ar 0)), (1, .int (nI i)), (2, .int (nI a)), (3, .int t)]) hx hb dX5_line_6 hl (by decide) rfl (fun ls hl => ?_)
  exact hloop r.length ρ _ _ ls (Nat.le_refl _) rfl (fun _ _ _ _ => rfl) (fun _ _ _ => rfl) (fun _ _ => ⟨rfl, rfl⟩) (fun j h1 h2 => by omega) hW hS (lv_sub hl [0, 1, 2, 3, 4] rfl)
