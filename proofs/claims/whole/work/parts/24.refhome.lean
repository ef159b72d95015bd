set_option maxHeartbeats 4000000 in
set_option maxRecDepth 100000 in
/-- X5_home -/
theorem c_X5_home0 (l : Launch) (dd : va_G) (ga : Nat → ClassId) (n k : Nat) (ar : Nat → Nat) (σ : qSt) (hsq : qSq n k) (hL : qLr ar) (i a : Nat) (hi : i < n) (ha : a < n) (t : Int32) (hcap : qCap n k σ) : Met l yX5_home wsX5_home ({ frames := 2, cells := 0, slots := 0, locals := 49 }) (qPc dd ga [.ref (ar 0), .int (nI i), .int (nI a), .int t, .int 0] (fun H => qR dd ga n k ar σ H)) (qQv (fun H => qR dd ga n k ar (q_home σ i a t false) H) (qAr ar)) 0 0 (qAr ar) := by
  refine Met.ofW (cc := cX5_home) (maxL := 8) (ret := none) (by decide) rfl ?_
  intro p e s m args below meth c s₁ B hml hv
  obtain ⟨rfl, ⟨ρ, hRp, hW⟩, hK⟩ := hv
  have hx := B.exec
  have hb := B.bytes
  have hr := B.returns
  have hts := atoms_spec (ws := wsX5_home) B.pre
  have hown : s.vm.findClass RX5 = some m.cls := findClass_of_methodNamed B.named
  have hlocks := B.notSynchronized
  have hS : qS (qAr ar) s.heap s.heap [] := qS.rf
  have hl := lv_entry ([.ref (ar 0), .int (nI i), .int (nI a), .int t, .int 0]) (n := 8) (Nat.le_of_ble_eq_true rfl)
  rw [lg_entry_eq]
  generalize (lg_sl ([.ref (ar 0), .int (nI i), .int (nI a), .int t, .int 0]) ++ List.replicate (8 - (lg_sl ([.ref (ar 0), .int (nI i), .int (nI a), .int t, .int 0])).length) Slot.unset).toArray = ls at hl ⊢
  have hin5 : ∀ w ∈ wsX50, w ∈ wsX5_home := by decide +kernel
  have hn1 := hsq.n.1
  have hn16 := hsq.n.2
  obtain ⟨hcw, hcr, hcx, hcl, hci⟩ := id hcap
  have hk4 := hsq.2.2
  have hrl := hcr i hi
  have hrn := hcx i hi
  have hloop : ∀ (τ : qSt) (ρ : Nat → Nat → Int32) (x9 : Nat × Int32) (r9 : List (Nat × Int32)), qRp n τ ρ → τ.2.2.1 i = x9 :: r9 → x9.1 < n → (τ.2.2.2.1 i x9.1).length ≤ 8 → q_home σ i a t false = q_lend (s_rw τ i r9) i x9.1 x9.2 → ∀ (c9 p9 : Nat) (ρ9 : Nat → Nat → Int32) (H : Heap) (locs : List Loc) (ls : Array Slot), p9 + c9 = r9.length → (∀ b j : Nat, b ≠ 10 → b ≠ 11 → b ≠ 12 → ρ9 b j = ρ b j) → (∀ j : Nat, j ≠ i → ρ9 10 j = ρ 10 j) → ρ9 10 i = nI r9.length → (∀ b j : Nat, (b = 11 ∨ b = 12) → ¬ (64 * i ≤ j ∧ j < 64 * i + 64) → ρ9 b j = ρ b j) → (∀ j : Nat, j < p9 → ρ9 11 (64 * i + j) = ρ 11 (64 * i + (j + 1)) ∧ ρ9 12 (64 * i + j) = ρ 12 (64 * i + (j + 1))) → (∀ j : Nat, p9 ≤ j → ρ9 11 (64 * i + j) = ρ 11 (64 * i + j) ∧ ρ9 12 (64 * i + j) = ρ 12 (64 * i + j)) → qR0 dd ga n k ar ρ9 τ.2.2.2.2 H → qS (qAr ar) s.heap H locs → lv_has ls 8 [(7, .int (nI p9)), (0, .ref (ar 0)), (1, .int (nI i)), (5, .int (nI x9.1)), (6, .int x9.2)] → W p l e (headSpec wsX5_home ({ frames := 2, cells := 0, slots := 0, locals := 49 })).room s m (([.ref (ar 0), .int (nI i), .int (nI a), .int t, .int 0] : List Value).toArray) below meth c H locs 0 0 (MQ below (qQv (fun H => qR dd ga n k ar (q_home σ i a t false) H) (qAr ar)) (([.ref (ar 0), .int (nI i), .int (nI a), .int t, .int 0] : List Value).toArray) s 0 0 (qAr ar)) (F0 m 93 ls []) := by
    intro τ ρ x9 r9 hRp hr9 hx9 hroom hfe c9
    have hrb := hRp.2.2.1 i hi
    rw [hr9] at hrb
    have hrl9 : r9.length + 1 ≤ 32 := hrb.2.1
    induction c9 with
    | zero =>
      intro p9 ρ9 H locs ls hc h0 h1 h10 h2 h3 h4 hW hS hl
      refine lv_iload hx hb dX5_home_93 (lv_at hl 0 rfl) ?_
      refine lv_aload_n hx hb dX5_home_95 rfl (lv_at hl 1 rfl) ?_
      refine qr_get (ci := 5) (C := RX5) (T := TX5) (N := 19) hx hb hts hin5 hown hK hW.self rfl 11 (by decide) (hts (.fieldLink RX5 38 "QuorumLockModel" "rows" "[I") (by decide +kernel)) rfl dX5_home_96 ?_
      refine lv_iload_n hx hb dX5_home_99 rfl (lv_at hl 2 rfl) ?_
      refine qr_iald (v := (nI r9.length)) hx hb hK hW.a10 i (by omega) (by omega) rfl h10 dX5_home_100 ?_
      refine lv_icmp_ge (tgt := 162) hx hb dX5_home_101 (by decide) (fun c_101 => ?_) (fun c_101 => absurd (nI_le (show r9.length ≤ p9 by omega) (by omega)) c_101)
      refine lv_aload_n hx hb dX5_home_162 rfl (lv_at hl 1 rfl) ?_
      refine lv_iload_n hx hb dX5_home_163 rfl (lv_at hl 2 rfl) ?_
      refine lv_iload hx hb dX5_home_164 (lv_at hl 3 rfl) ?_
      refine lv_iload hx hb dX5_home_166 (lv_at hl 4 rfl) ?_
      have hRp9 : qRp n (s_rw τ i r9) ρ9 := by
        refine hRp.srw h0 h1 h2 h10 (by omega) (fun j x hj => ?_)
        have g1 := (List.getElem?_eq_some_iff.mp hj).1
        have g2 := hrb.2.2 (j + 1) x (by rw [List.getElem?_cons_succ]; exact hj)
        have g3 := h3 j (by omega)
        exact ⟨g3.1.trans g2.1, g3.2.trans g2.2⟩
      refine qc_v (va_runV (As := [.int (nI i), .int (nI x9.1), .int x9.2]) (rest := []) ⟨hx, hb, hml, hown, hts⟩ (c_X5_lend l dd ga n k ar (s_rw τ i r9) hsq hL i x9.1 hi hx9 x9.2 hroom) (cwV 3 hts gX5_home_X5_lend rfl rfl rfl (by decide +kernel) ⟨Nat.le_of_ble_eq_true rfl, Nat.le_of_ble_eq_true rfl⟩) (qpreV hK (⟨ρ9, hRp9, hW⟩) hW.self rfl) rfl rfl hl.1 rfl (lv_room (Nat.le_of_ble_eq_true rfl)) dX5_home_168 ⟨Nat.zero_le _, Nat.zero_le _⟩) hS (fun q h => h) (fun H locs hp9 hz9 ho9 hS => ?_)
      have hfin := hp9
      exact q_vret hx hb hr hlocks hS (by rw [hfe]; exact hfin) dX5_home_171
    | succ c9 ih =>
      intro p9 ρ9 H locs ls hc h0 h1 h10 h2 h3 h4 hW hS hl
      refine lv_iload hx hb dX5_home_93 (lv_at hl 0 rfl) ?_
      refine lv_aload_n hx hb dX5_home_95 rfl (lv_at hl 1 rfl) ?_
      refine qr_get (ci := 5) (C := RX5) (T := TX5) (N := 19) hx hb hts hin5 hown hK hW.self rfl 11 (by decide) (hts (.fieldLink RX5 38 "QuorumLockModel" "rows" "[I") (by decide +kernel)) rfl dX5_home_96 ?_
      refine lv_iload_n hx hb dX5_home_99 rfl (lv_at hl 2 rfl) ?_
      refine qr_iald (v := (nI r9.length)) hx hb hK hW.a10 i (by omega) (by omega) rfl h10 dX5_home_100 ?_
      refine lv_icmp_ge (tgt := 162) hx hb dX5_home_101 (by decide) (fun c_101 => absurd c_101 (nI_ge (by omega) (by omega))) (fun c_101 => ?_)
      refine lv_aload_n hx hb dX5_home_104 rfl (lv_at hl 1 rfl) ?_
      refine qr_get (ci := 5) (C := RX5) (T := TX5) (N := 19) hx hb hts hin5 hown hK hW.self rfl 12 (by decide) (hts (.fieldLink RX5 41 "QuorumLockModel" "rowNode" "[I") (by decide +kernel)) rfl dX5_home_105 ?_
      refine lv_bipush (v := nI 64) hx hb dX5_home_108 (by decide) ?_
      refine lv_iload_n hx hb dX5_home_110 rfl (lv_at hl 2 rfl) ?_
      refine lv_imul hx hb dX5_home_111 ?_
      refine q_ti (y := nI (64 * i)) (pk_mul _ _) ?_
      refine lv_iload hx hb dX5_home_112 (lv_at hl 0 rfl) ?_
      refine lv_iadd hx hb dX5_home_114 ?_
      refine q_ti (y := nI (64 * i + p9)) (nI_add _ _) ?_
      refine lv_aload_n hx hb dX5_home_115 rfl (lv_at hl 1 rfl) ?_
      refine qr_get (ci := 5) (C := RX5) (T := TX5) (N := 19) hx hb hts hin5 hown hK hW.self rfl 12 (by decide) (hts (.fieldLink RX5 41 "QuorumLockModel" "rowNode" "[I") (by decide +kernel)) rfl dX5_home_116 ?_
      refine lv_bipush (v := nI 64) hx hb dX5_home_119 (by decide) ?_
      refine lv_iload_n hx hb dX5_home_121 rfl (lv_at hl 2 rfl) ?_
      refine lv_imul hx hb dX5_home_122 ?_
      refine q_ti (y := nI (64 * i)) (pk_mul _ _) ?_
      refine lv_iload hx hb dX5_home_123 (lv_at hl 0 rfl) ?_
      refine lv_iadd hx hb dX5_home_125 ?_
      refine q_ti (y := nI (64 * i + p9)) (nI_add _ _) ?_
      refine lv_iconst (v := 1) hx hb dX5_home_126 (by decide) ?_
      refine lv_iadd hx hb dX5_home_127 ?_
      refine q_ti (y := nI (64 * i + p9 + 1)) (nI_1 _) ?_
      refine qr_iald (v := (ρ 11 (64 * i + p9 + 1))) hx hb hK hW.a11 (64 * i + p9 + 1) (by omega) (by omega) rfl ((h4 (p9 + 1) (by omega)).1) dX5_home_128 ?_
      refine qr_iast hx hb hK hW.a11 hS (⟨11, by decide, rfl⟩) (64 * i + p9) (by omega) (by omega) rfl dX5_home_129 (fun H locs hz9 ho9 hat9 hS => ?_)
      have hW := hW.put hL 11 (64 * i + p9) (ρ 11 (64 * i + p9 + 1)) (by decide) (by decide) ho9 hat9
      refine lv_aload_n hx hb dX5_home_130 rfl (lv_at hl 1 rfl) ?_
      refine qr_get (ci := 5) (C := RX5) (T := TX5) (N := 19) hx hb hts hin5 hown hK hW.self rfl 13 (by decide) (hts (.fieldLink RX5 44 "QuorumLockModel" "rowTime" "[I") (by decide +kernel)) rfl dX5_home_131 ?_
      refine lv_bipush (v := nI 64) hx hb dX5_home_134 (by decide) ?_
      refine lv_iload_n hx hb dX5_home_136 rfl (lv_at hl 2 rfl) ?_
      refine lv_imul hx hb dX5_home_137 ?_
      refine q_ti (y := nI (64 * i)) (pk_mul _ _) ?_
      refine lv_iload hx hb dX5_home_138 (lv_at hl 0 rfl) ?_
      refine lv_iadd hx hb dX5_home_140 ?_
      refine q_ti (y := nI (64 * i + p9)) (nI_add _ _) ?_
      refine lv_aload_n hx hb dX5_home_141 rfl (lv_at hl 1 rfl) ?_
      refine qr_get (ci := 5) (C := RX5) (T := TX5) (N := 19) hx hb hts hin5 hown hK hW.self rfl 13 (by decide) (hts (.fieldLink RX5 44 "QuorumLockModel" "rowTime" "[I") (by decide +kernel)) rfl dX5_home_142 ?_
      refine lv_bipush (v := nI 64) hx hb dX5_home_145 (by decide) ?_
      refine lv_iload_n hx hb dX5_home_147 rfl (lv_at hl 2 rfl) ?_
      refine lv_imul hx hb dX5_home_148 ?_
      refine q_ti (y := nI (64 * i)) (pk_mul _ _) ?_
      refine lv_iload hx hb dX5_home_149 (lv_at hl 0 rfl) ?_
      refine lv_iadd hx hb dX5_home_151 ?_
      refine q_ti (y := nI (64 * i + p9)) (nI_add _ _) ?_
      refine lv_iconst (v := 1) hx hb dX5_home_152 (by decide) ?_
      refine lv_iadd hx hb dX5_home_153 ?_
      refine q_ti (y := nI (64 * i + p9 + 1)) (nI_1 _) ?_
      refine qr_iald (v := (ρ 12 (64 * i + p9 + 1))) hx hb hK hW.a12 (64 * i + p9 + 1) (by omega) (by omega) rfl (by simp [q2]; exact (h4 (p9 + 1) (by omega)).2) dX5_home_154 ?_
      refine qr_iast hx hb hK hW.a12 hS (⟨12, by decide, rfl⟩) (64 * i + p9) (by omega) (by omega) rfl dX5_home_155 (fun H locs hz9 ho9 hat9 hS => ?_)
      have hW := hW.put hL 12 (64 * i + p9) (ρ 12 (64 * i + p9 + 1)) (by decide) (by decide) ho9 hat9
      refine lv_iinc (v := nI (p9 + 1)) (lv' := [(7, .int (nI (p9 + 1))), (0, .ref (ar 0)), (1, .int (nI i)), (5, .int (nI x9.1)), (6, .int x9.2)]) hx hb dX5_home_156 hl (k := 0) rfl (nI_1 _) (by decide) rfl (fun ls hl => ?_)
      refine lv_goto (tgt := 93) hx hb dX5_home_159 (by decide) ?_
      refine ih (p9 + 1) _ _ _ ls (by omega) (fun b j g1 g2 g3 => ?_) (fun j g1 => ?_) ?_ (fun b j g1 g2 => ?_) (fun j hj => ?_) (fun j hj => ?_) hW hS (lv_sub hl [0, 1, 2, 3, 4] rfl)
      · rw [q2_n (by omega), q2_n (by omega)]; exact h0 b j g1 g2 g3
      · rw [q2_n (by omega), q2_n (by omega)]; exact h1 j g1
      · rw [q2_n (by omega), q2_n (by omega)]; exact h10
      · rw [q2_n (by omega), q2_n (by omega)]; exact h2 b j g1 g2
      · simp only [q2]
        rcases Nat.lt_or_ge j p9 with h | h
        · rw [if_neg (by omega), if_neg (by omega), if_neg (by omega), if_neg (by omega)]; exact h3 j h
        · have : j = p9 := by omega
          subst this
          exact ⟨by simp; rfl, by simp; rfl⟩
      · simp only [q2]
        rw [if_neg (by omega), if_neg (by omega), if_neg (by omega), if_neg (by omega)]; exact h4 j (by omega)
  rcases hln : σ.2.1 i with _ | ⟨b, u⟩
  · refine lv_aload_n hx hb dX5_home_0 rfl (lv_at hl 0 rfl) ?_
    refine qr_get (ci := 5) (C := RX5) (T := TX5) (N := 19) hx hb hts hin5 hown hK hW.self rfl 8 (by decide) (hts (.fieldLink RX5 28 "QuorumLockModel" "lent" "[I") (by decide +kernel)) rfl dX5_home_1 ?_
    refine lv_iload_n hx hb dX5_home_4 rfl (lv_at hl 1 rfl) ?_
    refine qr_iald (v := (-1)) hx hb hK hW.a7 i (by omega) (by omega) rfl (by rw [(hRp.2.1 i hi).1, hln]; rfl) dX5_home_5 ?_
    refine lv_iload_n hx hb dX5_home_6 rfl (lv_at hl 2 rfl) ?_
    refine lv_icmp_ne (tgt := 20) hx hb dX5_home_7 (by decide) (fun c_7 => ?_) (fun c_7 => absurd c_7.symm (q_nI_m1 (by omega)))
    exact q_vret hx hb hr hlocks hS (by rw [q_home_no (by rw [hln]; simp)]; exact ⟨ρ, hRp, hW⟩) dX5_home_20
  · refine lv_aload_n hx hb dX5_home_0 rfl (lv_at hl 0 rfl) ?_
    refine qr_get (ci := 5) (C := RX5) (T := TX5) (N := 19) hx hb hts hin5 hown hK hW.self rfl 8 (by decide) (hts (.fieldLink RX5 28 "QuorumLockModel" "lent" "[I") (by decide +kernel)) rfl dX5_home_1 ?_
    refine lv_iload_n hx hb dX5_home_4 rfl (lv_at hl 1 rfl) ?_
    refine qr_iald (v := (nI b)) hx hb hK hW.a7 i (by omega) (by omega) rfl (by rw [(hRp.2.1 i hi).1, hln]; rfl) dX5_home_5 ?_
    refine lv_iload_n hx hb dX5_home_6 rfl (lv_at hl 2 rfl) ?_
    refine lv_icmp_ne (tgt := 20) hx hb dX5_home_7 (by decide) (fun c_7 => ?_) (fun c_7 => ?_)
    · have hfin : qR dd ga n k ar (q_home σ i a t false) s.heap := by rw [q_home_no (by rw [hln]; intro h; cases h; exact c_7 rfl)]; exact ⟨ρ, hRp, hW⟩
      exact q_vret hx hb hr hlocks hS hfin dX5_home_20
    · refine lv_aload_n hx hb dX5_home_10 rfl (lv_at hl 0 rfl) ?_
      refine qr_get (ci := 5) (C := RX5) (T := TX5) (N := 19) hx hb hts hin5 hown hK hW.self rfl 9 (by decide) (hts (.fieldLink RX5 31 "QuorumLockModel" "lentTime" "[I") (by decide +kernel)) rfl dX5_home_11 ?_
      refine lv_iload_n hx hb dX5_home_14 rfl (lv_at hl 1 rfl) ?_
      refine qr_iald (v := u) hx hb hK hW.a8 i (by omega) (by omega) rfl ((hRp.2.1 i hi).2 (b, u) hln) dX5_home_15 ?_
      refine lv_iload_n hx hb dX5_home_16 rfl (lv_at hl 3 rfl) ?_
      refine lv_icmp_eq (tgt := 21) hx hb dX5_home_17 (by decide) (fun c_17 => ?_) (fun c_17 => ?_)
      · have hba : b = a := (nI_eq (by have := hcl i hi (b, u) hln; simp at this; omega) (by omega)).mp c_7
        have hln : σ.2.1 i = some (a, t) := by rw [hln, hba, c_17]
        refine lv_iload hx hb dX5_home_21 (lv_at hl 4 rfl) ?_
        refine lv_if_eq (tgt := 35) hx hb dX5_home_23 (by decide) (fun c_23 => ?_) (fun c_23 => absurd rfl c_23)
        refine lv_aload_n hx hb dX5_home_35 rfl (lv_at hl 0 rfl) ?_
        refine qr_get (ci := 5) (C := RX5) (T := TX5) (N := 19) hx hb hts hin5 hown hK hW.self rfl 8 (by decide) (hts (.fieldLink RX5 28 "QuorumLockModel" "lent" "[I") (by decide +kernel)) rfl dX5_home_36 ?_
        refine lv_iload_n hx hb dX5_home_39 rfl (lv_at hl 1 rfl) ?_
        refine lv_iconst (v := (-1)) hx hb dX5_home_40 (by decide) ?_
        refine qr_iast hx hb hK hW.a7 hS (⟨7, by decide, rfl⟩) i (by omega) (by omega) rfl dX5_home_41 (fun H locs hz9 ho9 hat9 hS => ?_)
        have hW := hW.put hL 7 i (-1) (by decide) (by decide) ho9 hat9
        refine lv_aload_n hx hb dX5_home_42 rfl (lv_at hl 0 rfl) ?_
        refine qr_get (ci := 5) (C := RX5) (T := TX5) (N := 19) hx hb hts hin5 hown hK hW.self rfl 10 (by decide) (hts (.fieldLink RX5 34 "QuorumLockModel" "inquired" "[Z") (by decide +kernel)) rfl dX5_home_43 ?_
        refine lv_iload_n hx hb dX5_home_46 rfl (lv_at hl 1 rfl) ?_
        refine lv_iconst (v := 0) hx hb dX5_home_47 (by decide) ?_
        refine qr_zast hx hb hK hW.a9 hS (⟨9, by decide, rfl⟩) i (by omega) (by omega) rfl rfl dX5_home_48 (fun H locs hz9 ho9 hat9 hS => ?_)
        have hW := hW.put hL 9 i 0 (by decide) (by decide) ho9 hat9
        obtain ⟨ρ, hRp, hW⟩ : ∃ ρ9, qRp n (s_tb (s_ln (σ) i none) 6 i 0) ρ9 ∧ qR0 dd ga n k ar ρ9 σ.2.2.2.2 H := ⟨_, (hRp.sln0 i).stb 6 i 0 (by decide), hW⟩
        have ehm : q_home σ i a t false = q_next (s_tb (s_ln (σ) i none) 6 i 0) i := by rw [q_home, if_pos hln]; rfl
        have hrl2 : ((s_tb (s_ln (σ) i none) 6 i 0).2.2.1 i).length ≤ 32 := (hRp.2.2.1 i hi).2.1
        have hrn2 : ∀ x ∈ (s_tb (s_ln (σ) i none) 6 i 0).2.2.1 i, x.1 < n := hcx i hi
        refine lv_aload_n hx hb dX5_home_49 rfl (lv_at hl 0 rfl) ?_
        refine qr_get (ci := 5) (C := RX5) (T := TX5) (N := 19) hx hb hts hin5 hown hK hW.self rfl 11 (by decide) (hts (.fieldLink RX5 38 "QuorumLockModel" "rows" "[I") (by decide +kernel)) rfl dX5_home_50 ?_
        refine lv_iload_n hx hb dX5_home_53 rfl (lv_at hl 1 rfl) ?_
        refine qr_iald (v := (nI ((s_tb (s_ln (σ) i none) 6 i 0).2.2.1 i).length)) hx hb hK hW.a10 i (by omega) (by omega) rfl ((hRp.2.2.1 i hi).1) dX5_home_54 ?_
        refine lv_if_le (tgt := 171) hx hb dX5_home_55 (by decide) (fun c_55 => ?_) (fun c_55 => ?_)
        · have hr9 : (s_tb (s_ln (σ) i none) 6 i 0).2.2.1 i = [] := List.length_eq_zero_iff.mp (Classical.byContradiction fun h => absurd c_55 (nI_nle (by omega) (by omega)))
          have hfin : qR dd ga n k ar (q_home σ i a t false) H := by rw [ehm, q_next, hr9]; exact ⟨ρ, hRp, hW⟩
          exact q_vret hx hb hr hlocks hS hfin dX5_home_171
        · obtain ⟨x9, r9, hr9⟩ : ∃ x9 r9, (s_tb (s_ln (σ) i none) 6 i 0).2.2.1 i = x9 :: r9 := by
            cases h : (s_tb (s_ln (σ) i none) 6 i 0).2.2.1 i with
            | nil => rw [h] at c_55; exact absurd (by decide) c_55
            | cons x r => exact ⟨x, r, rfl⟩
          have hx9 : x9.1 < n := hrn2 x9 (by rw [hr9]; exact List.mem_cons_self)
          have hrb := hRp.2.2.1 i hi
          rw [hr9] at hrb
          refine lv_aload_n hx hb dX5_home_58 rfl (lv_at hl 0 rfl) ?_
          refine qr_get (ci := 5) (C := RX5) (T := TX5) (N := 19) hx hb hts hin5 hown hK hW.self rfl 12 (by decide) (hts (.fieldLink RX5 41 "QuorumLockModel" "rowNode" "[I") (by decide +kernel)) rfl dX5_home_59 ?_
          refine lv_bipush (v := nI 64) hx hb dX5_home_62 (by decide) ?_
          refine lv_iload_n hx hb dX5_home_64 rfl (lv_at hl 1 rfl) ?_
          refine lv_imul hx hb dX5_home_65 ?_
          refine q_ti (y := nI (64 * i)) (pk_mul _ _) ?_
          refine qr_iald (v := (nI x9.1)) hx hb hK hW.a11 (64 * i) (by omega) (by omega) rfl (hrb.2.2 0 x9 rfl).1 dX5_home_66 ?_
          refine lv_istore (lv' := [(5, .int (nI x9.1)), (0, .ref (ar 0)), (1, .int (nI i)), (2, .int (nI a)), (3, .int t), (4, .int 0)]) hx hb dX5_home_67 hl (by decide) rfl (fun ls hl => ?_)
          refine lv_aload_n hx hb dX5_home_69 rfl (lv_at hl 1 rfl) ?_
          refine qr_get (ci := 5) (C := RX5) (T := TX5) (N := 19) hx hb hts hin5 hown hK hW.self rfl 13 (by decide) (hts (.fieldLink RX5 44 "QuorumLockModel" "rowTime" "[I") (by decide +kernel)) rfl dX5_home_70 ?_
          refine lv_bipush (v := nI 64) hx hb dX5_home_73 (by decide) ?_
          refine lv_iload_n hx hb dX5_home_75 rfl (lv_at hl 2 rfl) ?_
          refine lv_imul hx hb dX5_home_76 ?_
          refine q_ti (y := nI (64 * i)) (pk_mul _ _) ?_
          refine qr_iald (v := x9.2) hx hb hK hW.a12 (64 * i) (by omega) (by omega) rfl (hrb.2.2 0 x9 rfl).2 dX5_home_77 ?_
          refine lv_istore (lv' := [(6, .int x9.2), (5, .int (nI x9.1)), (0, .ref (ar 0)), (1, .int (nI i)), (2, .int (nI a)), (3, .int t), (4, .int 0)]) hx hb dX5_home_78 hl (by decide) rfl (fun ls hl => ?_)
          refine lv_aload_n hx hb dX5_home_80 rfl (lv_at hl 2 rfl) ?_
          refine qr_get (ci := 5) (C := RX5) (T := TX5) (N := 19) hx hb hts hin5 hown hK hW.self rfl 11 (by decide) (hts (.fieldLink RX5 38 "QuorumLockModel" "rows" "[I") (by decide +kernel)) rfl dX5_home_81 ?_
          refine lv_iload_n hx hb dX5_home_84 rfl (lv_at hl 3 rfl) ?_
          refine lv_dup2_11 hx hb dX5_home_85 rfl rfl ?_
          refine qr_iald (v := (nI (r9.length + 1))) hx hb hK hW.a10 i (by omega) (by omega) rfl hrb.1 dX5_home_86 ?_
          refine lv_iconst (v := 1) hx hb dX5_home_87 (by decide) ?_
          refine lv_isub hx hb dX5_home_88 ?_
          refine q_ti (y := nI r9.length) (nI_pred _) ?_
          refine qr_iast hx hb hK hW.a10 hS (⟨10, by decide, rfl⟩) i (by omega) (by omega) rfl dX5_home_89 (fun H locs hz9 ho9 hat9 hS => ?_)
          have hW := hW.put hL 10 i (nI r9.length) (by decide) (by decide) ho9 hat9
          refine lv_iconst (v := nI 0) hx hb dX5_home_90 (by decide) ?_
          refine lv_istore (lv' := [(7, .int (nI 0)), (6, .int x9.2), (5, .int (nI x9.1)), (0, .ref (ar 0)), (1, .int (nI i)), (2, .int (nI a)), (3, .int t), (4, .int 0)]) hx hb dX5_home_91 hl (by decide) rfl (fun ls hl => ?_)
          exact hloop (s_tb (s_ln (σ) i none) 6 i 0) ρ x9 r9 hRp hr9 hx9 (by have h9 := hcw i x9.1 hi hx9; show (σ.2.2.2.1 i x9.1).length ≤ 8; omega) (by rw [ehm, q_next, hr9]) r9.length 0 _ _ _ ls (by omega) (fun b j g1 g2 g3 => q2_n (by omega)) (fun j g1 => q2_n (by omega)) q2_s (fun b j g1 g2 => q2_n (by omega)) (fun j g => by omega) (fun j g => ⟨q2_n (by omega), q2_n (by omega)⟩) hW hS (lv_sub hl [0, 3, 4, 2, 1] rfl)
      · have hfin : qR dd ga n k ar (q_home σ i a t false) s.heap := by rw [q_home_no (by rw [hln]; intro h; cases h; exact c_17 rfl)]; exact ⟨ρ, hRp, hW⟩
        exact q_vret hx hb hr hlocks hS hfin dX5_home_20
set_option maxHeartbeats 4000000 in
set_option maxRecDepth 100000 in
/-- X5_home -/
theorem c_X5_home1 (l : Launch) (dd : va_G) (ga : Nat → ClassId) (n k : Nat) (ar : Nat → Nat) (σ : qSt) (hsq : qSq n k) (hL : qLr ar) (i a : Nat) (hi : i < n) (ha : a < n) (t : Int32) (hcap : qCap n k σ) : Met l yX5_home wsX5_home ({ frames := 2, cells := 0, slots := 0, locals := 49 }) (qPc dd ga [.ref (ar 0), .int (nI i), .int (nI a), .int t, .int 1] (fun H => qR dd ga n k ar σ H)) (qQv (fun H => qR dd ga n k ar (q_home σ i a t true) H) (qAr ar)) 0 0 (qAr ar) := by
  refine Met.ofW (cc := cX5_home) (maxL := 8) (ret := none) (by decide) rfl ?_
  intro p e s m args below meth c s₁ B hml hv
  obtain ⟨rfl, ⟨ρ, hRp, hW⟩, hK⟩ := hv
  have hx := B.exec
  have hb := B.bytes
  have hr := B.returns
  have hts := atoms_spec (ws := wsX5_home) B.pre
  have hown : s.vm.findClass RX5 = some m.cls := findClass_of_methodNamed B.named
  have hlocks := B.notSynchronized
  have hS : qS (qAr ar) s.heap s.heap [] := qS.rf
  have hl := lv_entry ([.ref (ar 0), .int (nI i), .int (nI a), .int t, .int 1]) (n := 8) (Nat.le_of_ble_eq_true rfl)
  rw [lg_entry_eq]
  generalize (lg_sl ([.ref (ar 0), .int (nI i), .int (nI a), .int t, .int 1]) ++ List.replicate (8 - (lg_sl ([.ref (ar 0), .int (nI i), .int (nI a), .int t, .int 1])).length) Slot.unset).toArray = ls at hl ⊢
  have hin5 : ∀ w ∈ wsX50, w ∈ wsX5_home := by decide +kernel
  have hn1 := hsq.n.1
  have hn16 := hsq.n.2
  obtain ⟨hcw, hcr, hcx, hcl, hci⟩ := id hcap
  have hk4 := hsq.2.2
  have hrl := hcr i hi
  have hrn := hcx i hi
  have hloop : ∀ (τ : qSt) (ρ : Nat → Nat → Int32) (x9 : Nat × Int32) (r9 : List (Nat × Int32)), qRp n τ ρ → τ.2.2.1 i = x9 :: r9 → x9.1 < n → (τ.2.2.2.1 i x9.1).length ≤ 8 → q_home σ i a t true = q_lend (s_rw τ i r9) i x9.1 x9.2 → ∀ (c9 p9 : Nat) (ρ9 : Nat → Nat → Int32) (H : Heap) (locs : List Loc) (ls : Array Slot), p9 + c9 = r9.length → (∀ b j : Nat, b ≠ 10 → b ≠ 11 → b ≠ 12 → ρ9 b j = ρ b j) → (∀ j : Nat, j ≠ i → ρ9 10 j = ρ 10 j) → ρ9 10 i = nI r9.length → (∀ b j : Nat, (b = 11 ∨ b = 12) → ¬ (64 * i ≤ j ∧ j < 64 * i + 64) → ρ9 b j = ρ b j) → (∀ j : Nat, j < p9 → ρ9 11 (64 * i + j) = ρ 11 (64 * i + (j + 1)) ∧ ρ9 12 (64 * i + j) = ρ 12 (64 * i + (j + 1))) → (∀ j : Nat, p9 ≤ j → ρ9 11 (64 * i + j) = ρ 11 (64 * i + j) ∧ ρ9 12 (64 * i + j) = ρ 12 (64 * i + j)) → qR0 dd ga n k ar ρ9 τ.2.2.2.2 H → qS (qAr ar) s.heap H locs → lv_has ls 8 [(7, .int (nI p9)), (0, .ref (ar 0)), (1, .int (nI i)), (5, .int (nI x9.1)), (6, .int x9.2)] → W p l e (headSpec wsX5_home ({ frames := 2, cells := 0, slots := 0, locals := 49 })).room s m (([.ref (ar 0), .int (nI i), .int (nI a), .int t, .int 1] : List Value).toArray) below meth c H locs 0 0 (MQ below (qQv (fun H => qR dd ga n k ar (q_home σ i a t true) H) (qAr ar)) (([.ref (ar 0), .int (nI i), .int (nI a), .int t, .int 1] : List Value).toArray) s 0 0 (qAr ar)) (F0 m 93 ls []) := by
    intro τ ρ x9 r9 hRp hr9 hx9 hroom hfe c9
    have hrb := hRp.2.2.1 i hi
    rw [hr9] at hrb
    have hrl9 : r9.length + 1 ≤ 32 := hrb.2.1
    induction c9 with
    | zero =>
      intro p9 ρ9 H locs ls hc h0 h1 h10 h2 h3 h4 hW hS hl
      refine lv_iload hx hb dX5_home_93 (lv_at hl 0 rfl) ?_
      refine lv_aload_n hx hb dX5_home_95 rfl (lv_at hl 1 rfl) ?_
      refine qr_get (ci := 5) (C := RX5) (T := TX5) (N := 19) hx hb hts hin5 hown hK hW.self rfl 11 (by decide) (hts (.fieldLink RX5 38 "QuorumLockModel" "rows" "[I") (by decide +kernel)) rfl dX5_home_96 ?_
      refine lv_iload_n hx hb dX5_home_99 rfl (lv_at hl 2 rfl) ?_
      refine qr_iald (v := (nI r9.length)) hx hb hK hW.a10 i (by omega) (by omega) rfl h10 dX5_home_100 ?_
      refine lv_icmp_ge (tgt := 162) hx hb dX5_home_101 (by decide) (fun c_101 => ?_) (fun c_101 => absurd (nI_le (show r9.length ≤ p9 by omega) (by omega)) c_101)
      refine lv_aload_n hx hb dX5_home_162 rfl (lv_at hl 1 rfl) ?_
      refine lv_iload_n hx hb dX5_home_163 rfl (lv_at hl 2 rfl) ?_
      refine lv_iload hx hb dX5_home_164 (lv_at hl 3 rfl) ?_
      refine lv_iload hx hb dX5_home_166 (lv_at hl 4 rfl) ?_
      have hRp9 : qRp n (s_rw τ i r9) ρ9 := by
        refine hRp.srw h0 h1 h2 h10 (by omega) (fun j x hj => ?_)
        have g1 := (List.getElem?_eq_some_iff.mp hj).1
        have g2 := hrb.2.2 (j + 1) x (by rw [List.getElem?_cons_succ]; exact hj)
        have g3 := h3 j (by omega)
        exact ⟨g3.1.trans g2.1, g3.2.trans g2.2⟩
      refine qc_v (va_runV (As := [.int (nI i), .int (nI x9.1), .int x9.2]) (rest := []) ⟨hx, hb, hml, hown, hts⟩ (c_X5_lend l dd ga n k ar (s_rw τ i r9) hsq hL i x9.1 hi hx9 x9.2 hroom) (cwV 3 hts gX5_home_X5_lend rfl rfl rfl (by decide +kernel) ⟨Nat.le_of_ble_eq_true rfl, Nat.le_of_ble_eq_true rfl⟩) (qpreV hK (⟨ρ9, hRp9, hW⟩) hW.self rfl) rfl rfl hl.1 rfl (lv_room (Nat.le_of_ble_eq_true rfl)) dX5_home_168 ⟨Nat.zero_le _, Nat.zero_le _⟩) hS (fun q h => h) (fun H locs hp9 hz9 ho9 hS => ?_)
      have hfin := hp9
      exact q_vret hx hb hr hlocks hS (by rw [hfe]; exact hfin) dX5_home_171
    | succ c9 ih =>
      intro p9 ρ9 H locs ls hc h0 h1 h10 h2 h3 h4 hW hS hl
      refine lv_iload hx hb dX5_home_93 (lv_at hl 0 rfl) ?_
      refine lv_aload_n hx hb dX5_home_95 rfl (lv_at hl 1 rfl) ?_
      refine qr_get (ci := 5) (C := RX5) (T := TX5) (N := 19) hx hb hts hin5 hown hK hW.self rfl 11 (by decide) (hts (.fieldLink RX5 38 "QuorumLockModel" "rows" "[I") (by decide +kernel)) rfl dX5_home_96 ?_
      refine lv_iload_n hx hb dX5_home_99 rfl (lv_at hl 2 rfl) ?_
      refine qr_iald (v := (nI r9.length)) hx hb hK hW.a10 i (by omega) (by omega) rfl h10 dX5_home_100 ?_
      refine lv_icmp_ge (tgt := 162) hx hb dX5_home_101 (by decide) (fun c_101 => absurd c_101 (nI_ge (by omega) (by omega))) (fun c_101 => ?_)
      refine lv_aload_n hx hb dX5_home_104 rfl (lv_at hl 1 rfl) ?_
      refine qr_get (ci := 5) (C := RX5) (T := TX5) (N := 19) hx hb hts hin5 hown hK hW.self rfl 12 (by decide) (hts (.fieldLink RX5 41 "QuorumLockModel" "rowNode" "[I") (by decide +kernel)) rfl dX5_home_105 ?_
      refine lv_bipush (v := nI 64) hx hb dX5_home_108 (by decide) ?_
      refine lv_iload_n hx hb dX5_home_110 rfl (lv_at hl 2 rfl) ?_
      refine lv_imul hx hb dX5_home_111 ?_
      refine q_ti (y := nI (64 * i)) (pk_mul _ _) ?_
      refine lv_iload hx hb dX5_home_112 (lv_at hl 0 rfl) ?_
      refine lv_iadd hx hb dX5_home_114 ?_
      refine q_ti (y := nI (64 * i + p9)) (nI_add _ _) ?_
      refine lv_aload_n hx hb dX5_home_115 rfl (lv_at hl 1 rfl) ?_
      refine qr_get (ci := 5) (C := RX5) (T := TX5) (N := 19) hx hb hts hin5 hown hK hW.self rfl 12 (by decide) (hts (.fieldLink RX5 41 "QuorumLockModel" "rowNode" "[I") (by decide +kernel)) rfl dX5_home_116 ?_
      refine lv_bipush (v := nI 64) hx hb dX5_home_119 (by decide) ?_
      refine lv_iload_n hx hb dX5_home_121 rfl (lv_at hl 2 rfl) ?_
      refine lv_imul hx hb dX5_home_122 ?_
      refine q_ti (y := nI (64 * i)) (pk_mul _ _) ?_
      refine lv_iload hx hb dX5_home_123 (lv_at hl 0 rfl) ?_
      refine lv_iadd hx hb dX5_home_125 ?_
      refine q_ti (y := nI (64 * i + p9)) (nI_add _ _) ?_
      refine lv_iconst (v := 1) hx hb dX5_home_126 (by decide) ?_
      refine lv_iadd hx hb dX5_home_127 ?_
      refine q_ti (y := nI (64 * i + p9 + 1)) (nI_1 _) ?_
      refine qr_iald (v := (ρ 11 (64 * i + p9 + 1))) hx hb hK hW.a11 (64 * i + p9 + 1) (by omega) (by omega) rfl ((h4 (p9 + 1) (by omega)).1) dX5_home_128 ?_
      refine qr_iast hx hb hK hW.a11 hS (⟨11, by decide, rfl⟩) (64 * i + p9) (by omega) (by omega) rfl dX5_home_129 (fun H locs hz9 ho9 hat9 hS => ?_)
      have hW := hW.put hL 11 (64 * i + p9) (ρ 11 (64 * i + p9 + 1)) (by decide) (by decide) ho9 hat9
      refine lv_aload_n hx hb dX5_home_130 rfl (lv_at hl 1 rfl) ?_
      refine qr_get (ci := 5) (C := RX5) (T := TX5) (N := 19) hx hb hts hin5 hown hK hW.self rfl 13 (by decide) (hts (.fieldLink RX5 44 "QuorumLockModel" "rowTime" "[I") (by decide +kernel)) rfl dX5_home_131 ?_
      refine lv_bipush (v := nI 64) hx hb dX5_home_134 (by decide) ?_
      refine lv_iload_n hx hb dX5_home_136 rfl (lv_at hl 2 rfl) ?_
      refine lv_imul hx hb dX5_home_137 ?_
      refine q_ti (y := nI (64 * i)) (pk_mul _ _) ?_
      refine lv_iload hx hb dX5_home_138 (lv_at hl 0 rfl) ?_
      refine lv_iadd hx hb dX5_home_140 ?_
      refine q_ti (y := nI (64 * i + p9)) (nI_add _ _) ?_
      refine lv_aload_n hx hb dX5_home_141 rfl (lv_at hl 1 rfl) ?_
      refine qr_get (ci := 5) (C := RX5) (T := TX5) (N := 19) hx hb hts hin5 hown hK hW.self rfl 13 (by decide) (hts (.fieldLink RX5 44 "QuorumLockModel" "rowTime" "[I") (by decide +kernel)) rfl dX5_home_142 ?_
      refine lv_bipush (v := nI 64) hx hb dX5_home_145 (by decide) ?_
      refine lv_iload_n hx hb dX5_home_147 rfl (lv_at hl 2 rfl) ?_
      refine lv_imul hx hb dX5_home_148 ?_
      refine q_ti (y := nI (64 * i)) (pk_mul _ _) ?_
      refine lv_iload hx hb dX5_home_149 (lv_at hl 0 rfl) ?_
      refine lv_iadd hx hb dX5_home_151 ?_
      refine q_ti (y := nI (64 * i + p9)) (nI_add _ _) ?_
      refine lv_iconst (v := 1) hx hb dX5_home_152 (by decide) ?_
      refine lv_iadd hx hb dX5_home_153 ?_
      refine q_ti (y := nI (64 * i + p9 + 1)) (nI_1 _) ?_
      refine qr_iald (v := (ρ 12 (64 * i + p9 + 1))) hx hb hK hW.a12 (64 * i + p9 + 1) (by omega) (by omega) rfl (by simp [q2]; exact (h4 (p9 + 1) (by omega)).2) dX5_home_154 ?_
      refine qr_iast hx hb hK hW.a12 hS (⟨12, by decide, rfl⟩) (64 * i + p9) (by omega) (by omega) rfl dX5_home_155 (fun H locs hz9 ho9 hat9 hS => ?_)
      have hW := hW.put hL 12 (64 * i + p9) (ρ 12 (64 * i + p9 + 1)) (by decide) (by decide) ho9 hat9
      refine lv_iinc (v := nI (p9 + 1)) (lv' := [(7, .int (nI (p9 + 1))), (0, .ref (ar 0)), (1, .int (nI i)), (5, .int (nI x9.1)), (6, .int x9.2)]) hx hb dX5_home_156 hl (k := 0) rfl (nI_1 _) (by decide) rfl (fun ls hl => ?_)
      refine lv_goto (tgt := 93) hx hb dX5_home_159 (by decide) ?_
      refine ih (p9 + 1) _ _ _ ls (by omega) (fun b j g1 g2 g3 => ?_) (fun j g1 => ?_) ?_ (fun b j g1 g2 => ?_) (fun j hj => ?_) (fun j hj => ?_) hW hS (lv_sub hl [0, 1, 2, 3, 4] rfl)
      · rw [q2_n (by omega), q2_n (by omega)]; exact h0 b j g1 g2 g3
      · rw [q2_n (by omega), q2_n (by omega)]; exact h1 j g1
      · rw [q2_n (by omega), q2_n (by omega)]; exact h10
      · rw [q2_n (by omega), q2_n (by omega)]; exact h2 b j g1 g2
      · simp only [q2]
        rcases Nat.lt_or_ge j p9 with h | h
        · rw [if_neg (by omega), if_neg (by omega), if_neg (by omega), if_neg (by omega)]; exact h3 j h
        · have : j = p9 := by omega
          subst this
          exact ⟨by simp; rfl, by simp; rfl⟩
      · simp only [q2]
        rw [if_neg (by omega), if_neg (by omega), if_neg (by omega), if_neg (by omega)]; exact h4 j (by omega)
  rcases hln : σ.2.1 i with _ | ⟨b, u⟩
  · refine lv_aload_n hx hb dX5_home_0 rfl (lv_at hl 0 rfl) ?_
    refine qr_get (ci := 5) (C := RX5) (T := TX5) (N := 19) hx hb hts hin5 hown hK hW.self rfl 8 (by decide) (hts (.fieldLink RX5 28 "QuorumLockModel" "lent" "[I") (by decide +kernel)) rfl dX5_home_1 ?_
    refine lv_iload_n hx hb dX5_home_4 rfl (lv_at hl 1 rfl) ?_
    refine qr_iald (v := (-1)) hx hb hK hW.a7 i (by omega) (by omega) rfl (by rw [(hRp.2.1 i hi).1, hln]; rfl) dX5_home_5 ?_
    refine lv_iload_n hx hb dX5_home_6 rfl (lv_at hl 2 rfl) ?_
    refine lv_icmp_ne (tgt := 20) hx hb dX5_home_7 (by decide) (fun c_7 => ?_) (fun c_7 => absurd c_7.symm (q_nI_m1 (by omega)))
    exact q_vret hx hb hr hlocks hS (by rw [q_home_no (by rw [hln]; simp)]; exact ⟨ρ, hRp, hW⟩) dX5_home_20
  · refine lv_aload_n hx hb dX5_home_0 rfl (lv_at hl 0 rfl) ?_
    refine qr_get (ci := 5) (C := RX5) (T := TX5) (N := 19) hx hb hts hin5 hown hK hW.self rfl 8 (by decide) (hts (.fieldLink RX5 28 "QuorumLockModel" "lent" "[I") (by decide +kernel)) rfl dX5_home_1 ?_
    refine lv_iload_n hx hb dX5_home_4 rfl (lv_at hl 1 rfl) ?_
    refine qr_iald (v := (nI b)) hx hb hK hW.a7 i (by omega) (by omega) rfl (by rw [(hRp.2.1 i hi).1, hln]; rfl) dX5_home_5 ?_
    refine lv_iload_n hx hb dX5_home_6 rfl (lv_at hl 2 rfl) ?_
    refine lv_icmp_ne (tgt := 20) hx hb dX5_home_7 (by decide) (fun c_7 => ?_) (fun c_7 => ?_)
    · have hfin : qR dd ga n k ar (q_home σ i a t true) s.heap := by rw [q_home_no (by rw [hln]; intro h; cases h; exact c_7 rfl)]; exact ⟨ρ, hRp, hW⟩
      exact q_vret hx hb hr hlocks hS hfin dX5_home_20
    · refine lv_aload_n hx hb dX5_home_10 rfl (lv_at hl 0 rfl) ?_
      refine qr_get (ci := 5) (C := RX5) (T := TX5) (N := 19) hx hb hts hin5 hown hK hW.self rfl 9 (by decide) (hts (.fieldLink RX5 31 "QuorumLockModel" "lentTime" "[I") (by decide +kernel)) rfl dX5_home_11 ?_
      refine lv_iload_n hx hb dX5_home_14 rfl (lv_at hl 1 rfl) ?_
      refine qr_iald (v := u) hx hb hK hW.a8 i (by omega) (by omega) rfl ((hRp.2.1 i hi).2 (b, u) hln) dX5_home_15 ?_
      refine lv_iload_n hx hb dX5_home_16 rfl (lv_at hl 3 rfl) ?_
      refine lv_icmp_eq (tgt := 21) hx hb dX5_home_17 (by decide) (fun c_17 => ?_) (fun c_17 => ?_)
      · have hba : b = a := (nI_eq (by have := hcl i hi (b, u) hln; simp at this; omega) (by omega)).mp c_7
        have hln : σ.2.1 i = some (a, t) := by rw [hln, hba, c_17]
        refine lv_iload hx hb dX5_home_21 (lv_at hl 4 rfl) ?_
        refine lv_if_eq (tgt := 35) hx hb dX5_home_23 (by decide) (fun c_23 => absurd c_23 (by decide)) (fun c_23 => ?_)
        refine lv_aload_n hx hb dX5_home_26 rfl (lv_at hl 0 rfl) ?_
        refine lv_iload_n hx hb dX5_home_27 rfl (lv_at hl 1 rfl) ?_
        refine lv_iload_n hx hb dX5_home_28 rfl (lv_at hl 2 rfl) ?_
        refine lv_iload_n hx hb dX5_home_29 rfl (lv_at hl 3 rfl) ?_
        refine qc_i (va_runV (As := [.int (nI i), .int (nI a), .int t]) (rest := []) ⟨hx, hb, hml, hown, hts⟩ (c_X5_line l dd ga n k ar σ hsq hL i a hi ha t (by omega) hrn) (cwV 3 hts gX5_home_X5_line rfl rfl rfl (by decide +kernel) ⟨Nat.le_of_ble_eq_true rfl, Nat.le_of_ble_eq_true rfl⟩) (qpreV hK (⟨ρ, hRp, hW⟩) hW.self rfl) rfl rfl hl.1 rfl (lv_room (Nat.le_of_ble_eq_true rfl)) dX5_home_30 ⟨Nat.zero_le _, Nat.zero_le _⟩) hS (fun q h => h) (fun v30 H locs hp9 hz9 ho9 hS => ?_)
        obtain ⟨e30, ρ, hRp, hW⟩ := hp9
        refine lv_istore (lv' := [(5, .int v30), (0, .ref (ar 0)), (1, .int (nI i)), (2, .int (nI a)), (3, .int t), (4, .int 1)]) hx hb dX5_home_33 hl (by decide) rfl (fun ls hl => ?_)
        refine lv_aload_n hx hb dX5_home_35 rfl (lv_at hl 1 rfl) ?_
        refine qr_get (ci := 5) (C := RX5) (T := TX5) (N := 19) hx hb hts hin5 hown hK hW.self rfl 8 (by decide) (hts (.fieldLink RX5 28 "QuorumLockModel" "lent" "[I") (by decide +kernel)) rfl dX5_home_36 ?_
        refine lv_iload_n hx hb dX5_home_39 rfl (lv_at hl 2 rfl) ?_
        refine lv_iconst (v := (-1)) hx hb dX5_home_40 (by decide) ?_
        refine qr_iast hx hb hK hW.a7 hS (⟨7, by decide, rfl⟩) i (by omega) (by omega) rfl dX5_home_41 (fun H locs hz9 ho9 hat9 hS => ?_)
        have hW := hW.put hL 7 i (-1) (by decide) (by decide) ho9 hat9
        refine lv_aload_n hx hb dX5_home_42 rfl (lv_at hl 1 rfl) ?_
        refine qr_get (ci := 5) (C := RX5) (T := TX5) (N := 19) hx hb hts hin5 hown hK hW.self rfl 10 (by decide) (hts (.fieldLink RX5 34 "QuorumLockModel" "inquired" "[Z") (by decide +kernel)) rfl dX5_home_43 ?_
        refine lv_iload_n hx hb dX5_home_46 rfl (lv_at hl 2 rfl) ?_
        refine lv_iconst (v := 0) hx hb dX5_home_47 (by decide) ?_
        refine qr_zast hx hb hK hW.a9 hS (⟨9, by decide, rfl⟩) i (by omega) (by omega) rfl rfl dX5_home_48 (fun H locs hz9 ho9 hat9 hS => ?_)
        have hW := hW.put hL 9 i 0 (by decide) (by decide) ho9 hat9
        obtain ⟨ρ, hRp, hW⟩ : ∃ ρ9, qRp n (s_tb (s_ln (s_rw σ i (q_ins (σ.2.2.1 i) a t)) i none) 6 i 0) ρ9 ∧ qR0 dd ga n k ar ρ9 σ.2.2.2.2 H := ⟨_, (hRp.sln0 i).stb 6 i 0 (by decide), hW⟩
        have ehm : q_home σ i a t true = q_next (s_tb (s_ln (s_rw σ i (q_ins (σ.2.2.1 i) a t)) i none) 6 i 0) i := by rw [q_home, if_pos hln]; rfl
        have hrl2 : ((s_tb (s_ln (s_rw σ i (q_ins (σ.2.2.1 i) a t)) i none) 6 i 0).2.2.1 i).length ≤ 32 := (hRp.2.2.1 i hi).2.1
        have hrn2 : ∀ x ∈ (s_tb (s_ln (s_rw σ i (q_ins (σ.2.2.1 i) a t)) i none) 6 i 0).2.2.1 i, x.1 < n := fun x hx => by have hx : x ∈ va_up σ.2.2.1 i (q_ins (σ.2.2.1 i) a t) i := hx; rw [va_up_self] at hx; rcases q_ins_mem hx with h | h; (rw [h]; exact ha); exact hcx i hi x h
        refine lv_aload_n hx hb dX5_home_49 rfl (lv_at hl 1 rfl) ?_
        refine qr_get (ci := 5) (C := RX5) (T := TX5) (N := 19) hx hb hts hin5 hown hK hW.self rfl 11 (by decide) (hts (.fieldLink RX5 38 "QuorumLockModel" "rows" "[I") (by decide +kernel)) rfl dX5_home_50 ?_
        refine lv_iload_n hx hb dX5_home_53 rfl (lv_at hl 2 rfl) ?_
        refine qr_iald (v := (nI ((s_tb (s_ln (s_rw σ i (q_ins (σ.2.2.1 i) a t)) i none) 6 i 0).2.2.1 i).length)) hx hb hK hW.a10 i (by omega) (by omega) rfl ((hRp.2.2.1 i hi).1) dX5_home_54 ?_
        refine lv_if_le (tgt := 171) hx hb dX5_home_55 (by decide) (fun c_55 => ?_) (fun c_55 => ?_)
        · have hr9 : (s_tb (s_ln (s_rw σ i (q_ins (σ.2.2.1 i) a t)) i none) 6 i 0).2.2.1 i = [] := List.length_eq_zero_iff.mp (Classical.byContradiction fun h => absurd c_55 (nI_nle (by omega) (by omega)))
          have hfin : qR dd ga n k ar (q_home σ i a t true) H := by rw [ehm, q_next, hr9]; exact ⟨ρ, hRp, hW⟩
          exact q_vret hx hb hr hlocks hS hfin dX5_home_171
        · obtain ⟨x9, r9, hr9⟩ : ∃ x9 r9, (s_tb (s_ln (s_rw σ i (q_ins (σ.2.2.1 i) a t)) i none) 6 i 0).2.2.1 i = x9 :: r9 := by
            cases h : (s_tb (s_ln (s_rw σ i (q_ins (σ.2.2.1 i) a t)) i none) 6 i 0).2.2.1 i with
            | nil => rw [h] at c_55; exact absurd (by decide) c_55
            | cons x r => exact ⟨x, r, rfl⟩
          have hx9 : x9.1 < n := hrn2 x9 (by rw [hr9]; exact List.mem_cons_self)
          have hrb := hRp.2.2.1 i hi
          rw [hr9] at hrb
          refine lv_aload_n hx hb dX5_home_58 rfl (lv_at hl 1 rfl) ?_
          refine qr_get (ci := 5) (C := RX5) (T := TX5) (N := 19) hx hb hts hin5 hown hK hW.self rfl 12 (by decide) (hts (.fieldLink RX5 41 "QuorumLockModel" "rowNode" "[I") (by decide +kernel)) rfl dX5_home_59 ?_
          refine lv_bipush (v := nI 64) hx hb dX5_home_62 (by decide) ?_
          refine lv_iload_n hx hb dX5_home_64 rfl (lv_at hl 2 rfl) ?_
          refine lv_imul hx hb dX5_home_65 ?_
          refine q_ti (y := nI (64 * i)) (pk_mul _ _) ?_
          refine qr_iald (v := (nI x9.1)) hx hb hK hW.a11 (64 * i) (by omega) (by omega) rfl (hrb.2.2 0 x9 rfl).1 dX5_home_66 ?_
          refine lv_istore (lv' := [(5, .int (nI x9.1)), (0, .ref (ar 0)), (1, .int (nI i)), (2, .int (nI a)), (3, .int t), (4, .int 1)]) hx hb dX5_home_67 hl (by decide) rfl (fun ls hl => ?_)
          refine lv_aload_n hx hb dX5_home_69 rfl (lv_at hl 1 rfl) ?_
          refine qr_get (ci := 5) (C := RX5) (T := TX5) (N := 19) hx hb hts hin5 hown hK hW.self rfl 13 (by decide) (hts (.fieldLink RX5 44 "QuorumLockModel" "rowTime" "[I") (by decide +kernel)) rfl dX5_home_70 ?_
          refine lv_bipush (v := nI 64) hx hb dX5_home_73 (by decide) ?_
          refine lv_iload_n hx hb dX5_home_75 rfl (lv_at hl 2 rfl) ?_
          refine lv_imul hx hb dX5_home_76 ?_
          refine q_ti (y := nI (64 * i)) (pk_mul _ _) ?_
          refine qr_iald (v := x9.2) hx hb hK hW.a12 (64 * i) (by omega) (by omega) rfl (hrb.2.2 0 x9 rfl).2 dX5_home_77 ?_
          refine lv_istore (lv' := [(6, .int x9.2), (5, .int (nI x9.1)), (0, .ref (ar 0)), (1, .int (nI i)), (2, .int (nI a)), (3, .int t), (4, .int 1)]) hx hb dX5_home_78 hl (by decide) rfl (fun ls hl => ?_)
          refine lv_aload_n hx hb dX5_home_80 rfl (lv_at hl 2 rfl) ?_
          refine qr_get (ci := 5) (C := RX5) (T := TX5) (N := 19) hx hb hts hin5 hown hK hW.self rfl 11 (by decide) (hts (.fieldLink RX5 38 "QuorumLockModel" "rows" "[I") (by decide +kernel)) rfl dX5_home_81 ?_
          refine lv_iload_n hx hb dX5_home_84 rfl (lv_at hl 3 rfl) ?_
          refine lv_dup2_11 hx hb dX5_home_85 rfl rfl ?_
          refine qr_iald (v := (nI (r9.length + 1))) hx hb hK hW.a10 i (by omega) (by omega) rfl hrb.1 dX5_home_86 ?_
          refine lv_iconst (v := 1) hx hb dX5_home_87 (by decide) ?_
          refine lv_isub hx hb dX5_home_88 ?_
          refine q_ti (y := nI r9.length) (nI_pred _) ?_
          refine qr_iast hx hb hK hW.a10 hS (⟨10, by decide, rfl⟩) i (by omega) (by omega) rfl dX5_home_89 (fun H locs hz9 ho9 hat9 hS => ?_)
          have hW := hW.put hL 10 i (nI r9.length) (by decide) (by decide) ho9 hat9
          refine lv_iconst (v := nI 0) hx hb dX5_home_90 (by decide) ?_
          refine lv_istore (lv' := [(7, .int (nI 0)), (6, .int x9.2), (5, .int (nI x9.1)), (0, .ref (ar 0)), (1, .int (nI i)), (2, .int (nI a)), (3, .int t), (4, .int 1)]) hx hb dX5_home_91 hl (by decide) rfl (fun ls hl => ?_)
          exact hloop (s_tb (s_ln (s_rw σ i (q_ins (σ.2.2.1 i) a t)) i none) 6 i 0) ρ x9 r9 hRp hr9 hx9 (by have h9 := hcw i x9.1 hi hx9; show (σ.2.2.2.1 i x9.1).length ≤ 8; omega) (by rw [ehm, q_next, hr9]) r9.length 0 _ _ _ ls (by omega) (fun b j g1 g2 g3 => q2_n (by omega)) (fun j g1 => q2_n (by omega)) q2_s (fun b j g1 g2 => q2_n (by omega)) (fun j g => by omega) (fun j g => ⟨q2_n (by omega), q2_n (by omega)⟩) hW hS (lv_sub hl [0, 3, 4, 2, 1] rfl)
      · have hfin : qR dd ga n k ar (q_home σ i a t true) s.heap := by rw [q_home_no (by rw [hln]; intro h; cases h; exact c_17 rfl)]; exact ⟨ρ, hRp, hW⟩
        exact q_vret hx hb hr hlocks hS hfin dX5_home_20
