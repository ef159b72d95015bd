/-- what is not a message to one that votes is one to one that asks; there a kind that is none counts as the last one, FAILED -/
theorem q_do_a {n : Nat} {σ : qSt} {i j : Nat} {x t : Int32} (h1 : x ≠ 1) (h3 : x ≠ 3) (h5 : x ≠ 5) : q_do n σ i j x t = if x = 2 then q_locked σ i j t else if x = 4 then q_inquire σ i j t else q_failed n σ i j t := by
  unfold q_do
  rw [if_neg h1, if_neg h3, if_neg h5]
set_option maxHeartbeats 4000000 in
set_option maxRecDepth 100000 in
/-- X5_answer -/
theorem c_X5_answer (l : Launch) (dd : va_G) (ga : Nat → ClassId) (n k : Nat) (ar : Nat → Nat) (σ : qSt) (hsq : qSq n k) (hL : qLr ar) (i j : Nat) (hi : i < n) (hj : j < n) (x t : Int32) (hx1 : x ≠ 1) (hx3 : x ≠ 3) (hx5 : x ≠ 5) (hx6 : x = 2 ∨ x = 4 ∨ x = 6) (hroom : ∀ t : Nat, t < n → (σ.2.2.2.1 i t).length ≤ 6) : Met l yX5_answer wsX5_answer ({ frames := 2, cells := 0, slots := 0, locals := 48 }) (qPc dd ga [.ref (ar 0), .int (nI i), .int (nI j), .int x, .int t] (fun H => qR dd ga n k ar σ H)) (qQv (fun H => qR dd ga n k ar (q_do n σ i j x t) H) (qAr ar)) 0 0 (qAr ar) := by
  refine Met.ofW (cc := cX5_answer) (maxL := 6) (ret := none) (by decide) rfl ?_
  intro p e s m args below meth c s₁ B hml hv
  obtain ⟨rfl, ⟨ρ, hRp, hW⟩, hK⟩ := hv
  have hx := B.exec
  have hb := B.bytes
  have hr := B.returns
  have hts := atoms_spec (ws := wsX5_answer) B.pre
  have hown : s.vm.findClass RX5 = some m.cls := findClass_of_methodNamed B.named
  have hlocks := B.notSynchronized
  have hS : qS (qAr ar) s.heap s.heap [] := qS.rf
  have hl := lv_entry ([.ref (ar 0), .int (nI i), .int (nI j), .int x, .int t]) (n := 6) (Nat.le_of_ble_eq_true rfl)
  rw [lg_entry_eq]
  generalize (lg_sl ([.ref (ar 0), .int (nI i), .int (nI j), .int x, .int t]) ++ List.replicate (6 - (lg_sl ([.ref (ar 0), .int (nI i), .int (nI j), .int x, .int t])).length) Slot.unset).toArray = ls at hl ⊢
  have hin5 : ∀ w ∈ wsX50, w ∈ wsX5_answer := by decide +kernel
  have hn1 := hsq.n.1
  have hn16 := hsq.n.2
  have hdo := q_do_a (n := n) (σ := σ) (i := i) (j := j) (t := t) hx1 hx3 hx5
  have hloop : x = 6 → (σ.1 1 i = 1 ∧ σ.1 2 i = t) → ∀ (c9 j9 : Nat) (τ : qSt) (ls : Array Slot) (H : Heap) (locs : List Loc), j9 + c9 = n → q_failed n σ i j t = q_gives i c9 j9 τ → (∀ t : Nat, j9 ≤ t → t < n → (τ.2.2.2.1 i t).length ≤ 6) → qR dd ga n k ar τ H → qS (qAr ar) s.heap H locs → lv_has ls 6 [(5, .int (nI j9)), (0, .ref (ar 0)), (1, .int (nI i))] → W p l e (headSpec wsX5_answer ({ frames := 2, cells := 0, slots := 0, locals := 48 })).room s m (([.ref (ar 0), .int (nI i), .int (nI j), .int x, .int t] : List Value).toArray) below meth c H locs 0 0 (MQ below (qQv (fun H => qR dd ga n k ar (q_do n σ i j x t) H) (qAr ar)) (([.ref (ar 0), .int (nI i), .int (nI j), .int x, .int t] : List Value).toArray) s 0 0 (qAr ar)) (F0 m 86 ls []) := by
    intro hk6 hst c9
    induction c9 with
    | zero =>
      intro j9 τ ls H locs hc he hw hR hS hl
      obtain ⟨ρ, hRp, hW⟩ := hR
      refine lv_iload hx hb dX5_answer_86 (lv_at hl 0 rfl) ?_
      refine lv_aload_n hx hb dX5_answer_88 rfl (lv_at hl 1 rfl) ?_
      refine qr_get (ci := 5) (C := RX5) (T := TX5) (N := 19) hx hb hts hin5 hown hK hW.self rfl 1 (by decide) (hts (.fieldLink RX5 63 "QuorumLockModel" "n" "I") (by decide +kernel)) rfl dX5_answer_89 ?_
      refine lv_icmp_ge (tgt := 130) hx hb dX5_answer_92 (by decide) (fun c_92 => ?_) (fun c_92 => absurd (nI_le (show n ≤ j9 by omega) (by omega)) c_92)
      refine lv_goto (tgt := 192) hx hb dX5_answer_130 (by decide) ?_
      exact q_vret hx hb hr hlocks hS (by rw [hdo, if_neg (by rw [hk6]; decide), if_neg (by rw [hk6]; decide), he]; exact ⟨ρ, hRp, hW⟩) dX5_answer_192
    | succ c9 ih =>
      intro j9 τ ls H locs hc he hw hR hS hl
      obtain ⟨ρ, hRp, hW⟩ := hR
      refine lv_iload hx hb dX5_answer_86 (lv_at hl 0 rfl) ?_
      refine lv_aload_n hx hb dX5_answer_88 rfl (lv_at hl 1 rfl) ?_
      refine qr_get (ci := 5) (C := RX5) (T := TX5) (N := 19) hx hb hts hin5 hown hK hW.self rfl 1 (by decide) (hts (.fieldLink RX5 63 "QuorumLockModel" "n" "I") (by decide +kernel)) rfl dX5_answer_89 ?_
      refine lv_icmp_ge (tgt := 130) hx hb dX5_answer_92 (by decide) (fun c_92 => absurd c_92 (nI_ge (by omega) (by omega))) (fun c_92 => ?_)
      refine lv_aload_n hx hb dX5_answer_95 rfl (lv_at hl 1 rfl) ?_
      refine qr_get (ci := 5) (C := RX5) (T := TX5) (N := 19) hx hb hts hin5 hown hK hW.self rfl 5 (by decide) (hts (.fieldLink RX5 19 "QuorumLockModel" "votes" "[I") (by decide +kernel)) rfl dX5_answer_96 ?_
      refine lv_iload_n hx hb dX5_answer_99 rfl (lv_at hl 2 rfl) ?_
      refine qr_iald (v := (τ.1 3 i)) hx hb hK hW.a4 i (by omega) (by omega) rfl (hRp.t 3 i (by decide) hi) dX5_answer_100 ?_
      refine lv_aload_n hx hb dX5_answer_101 rfl (lv_at hl 1 rfl) ?_
      refine qr_get (ci := 5) (C := RX5) (T := TX5) (N := 19) hx hb hts hin5 hown hK hW.self rfl 7 (by decide) (hts (.fieldLink RX5 25 "QuorumLockModel" "inquiries" "[I") (by decide +kernel)) rfl dX5_answer_102 ?_
      refine lv_iload_n hx hb dX5_answer_105 rfl (lv_at hl 2 rfl) ?_
      refine qr_iald (v := (τ.1 5 i)) hx hb hK hW.a6 i (by omega) (by omega) rfl (hRp.t 5 i (by decide) hi) dX5_answer_106 ?_
      refine lv_iand hx hb dX5_answer_107 ?_
      refine lv_iload hx hb dX5_answer_108 (lv_at hl 0 rfl) ?_
      refine lv_ishr hx hb dX5_answer_110 ?_
      refine lv_iconst (v := 1) hx hb dX5_answer_111 (by decide) ?_
      refine lv_iand hx hb dX5_answer_112 ?_
      refine lv_iconst (v := 1) hx hb dX5_answer_113 (by decide) ?_
      refine lv_icmp_ne (tgt := 124) hx hb dX5_answer_114 (by decide) (fun c_114 => ?_) (fun c_114 => ?_)
      · refine lv_iinc (v := nI (j9 + 1)) (lv' := [(5, .int (nI (j9 + 1))), (0, .ref (ar 0)), (1, .int (nI i))]) hx hb dX5_answer_124 hl (k := 0) rfl (nI_1 _) (by decide) rfl (fun ls hl => ?_)
        refine lv_goto (tgt := 86) hx hb dX5_answer_127 (by decide) ?_
        refine ih (j9 + 1) (τ) ls _ _ (by omega) (by rw [he, q_gives, if_neg (fun h => c_114 (q_hasI.mpr h))]) (fun t h1 h2 => ?_) ⟨ρ, hRp, hW⟩ hS (lv_sub hl [0, 1, 2] rfl)
        exact hw t (by omega) h2
      · refine lv_aload_n hx hb dX5_answer_117 rfl (lv_at hl 1 rfl) ?_
        refine lv_iload_n hx hb dX5_answer_118 rfl (lv_at hl 2 rfl) ?_
        refine lv_iload hx hb dX5_answer_119 (lv_at hl 0 rfl) ?_
        refine qc_v (va_runV (As := [.int (nI i), .int (nI j9)]) (rest := []) ⟨hx, hb, hml, hown, hts⟩ (c_X5_giveUp l dd ga n k ar τ hsq hL i j9 hi (by omega) (by have := hw j9 (Nat.le_refl _) (by omega); omega)) (cwV 2 hts gX5_answer_X5_giveUp rfl rfl rfl (by decide +kernel) ⟨Nat.le_of_ble_eq_true rfl, Nat.le_of_ble_eq_true rfl⟩) (qpreV hK (⟨ρ, hRp, hW⟩) hW.self rfl) rfl rfl hl.1 rfl (lv_room (Nat.le_of_ble_eq_true rfl)) dX5_answer_121 ⟨Nat.zero_le _, Nat.zero_le _⟩) hS (fun q h => h) (fun H locs hp9 hz9 ho9 hS => ?_)
        obtain ⟨ρ, hRp, hW⟩ := hp9
        refine lv_iinc (v := nI (j9 + 1)) (lv' := [(5, .int (nI (j9 + 1))), (0, .ref (ar 0)), (1, .int (nI i))]) hx hb dX5_answer_124 hl (k := 0) rfl (nI_1 _) (by decide) rfl (fun ls hl => ?_)
        refine lv_goto (tgt := 86) hx hb dX5_answer_127 (by decide) ?_
        refine ih (j9 + 1) (q_giveUp τ i j9) ls _ _ (by omega) (by rw [he, q_gives, if_pos (q_hasI.mp c_114)]) (fun t h1 h2 => ?_) ⟨ρ, hRp, hW⟩ hS (lv_sub hl [0, 1, 2] rfl)
        rw [show (q_giveUp τ i j9).2.2.2.1 i t = τ.2.2.2.1 i t from q2_n (by omega)]; exact hw t (by omega) h2
  refine lv_aload_n hx hb dX5_answer_0 rfl (lv_at hl 0 rfl) ?_
  refine qr_get (ci := 5) (C := RX5) (T := TX5) (N := 19) hx hb hts hin5 hown hK hW.self rfl 3 (by decide) (hts (.fieldLink RX5 13 "QuorumLockModel" "state" "[I") (by decide +kernel)) rfl dX5_answer_1 ?_
  refine lv_iload_n hx hb dX5_answer_4 rfl (lv_at hl 1 rfl) ?_
  refine qr_iald (v := (σ.1 1 i)) hx hb hK hW.a2 i (by omega) (by omega) rfl (hRp.t 1 i (by decide) hi) dX5_answer_5 ?_
  refine lv_if_eq (tgt := 20) hx hb dX5_answer_6 (by decide) (fun c_6 => ?_) (fun c_6 => ?_)
  · have hfin : qR dd ga n k ar (q_do n σ i j x t) s.heap := by
      have h9 : q_do n σ i j x t = σ := by rw [hdo]; rcases hx6 with h | h | h <;> simp [h, q_locked, q_inquire, q_failed, c_6]
      rw [h9]; exact ⟨ρ, hRp, hW⟩
    exact q_vret hx hb hr hlocks hS hfin dX5_answer_20
  · refine lv_aload_n hx hb dX5_answer_9 rfl (lv_at hl 0 rfl) ?_
    refine qr_get (ci := 5) (C := RX5) (T := TX5) (N := 19) hx hb hts hin5 hown hK hW.self rfl 4 (by decide) (hts (.fieldLink RX5 16 "QuorumLockModel" "time" "[I") (by decide +kernel)) rfl dX5_answer_10 ?_
    refine lv_iload_n hx hb dX5_answer_13 rfl (lv_at hl 1 rfl) ?_
    refine qr_iald (v := (σ.1 2 i)) hx hb hK hW.a3 i (by omega) (by omega) rfl (hRp.t 2 i (by decide) hi) dX5_answer_14 ?_
    refine lv_iload hx hb dX5_answer_15 (lv_at hl 4 rfl) ?_
    refine lv_icmp_eq (tgt := 21) hx hb dX5_answer_17 (by decide) (fun c_17 => ?_) (fun c_17 => ?_)
    · refine lv_iload_n hx hb dX5_answer_21 rfl (lv_at hl 3 rfl) ?_
      refine lv_iconst (v := 2) hx hb dX5_answer_22 (by decide) ?_
      refine lv_icmp_ne (tgt := 55) hx hb dX5_answer_23 (by decide) (fun c_23 => ?_) (fun c_23 => ?_)
      · refine lv_iload_n hx hb dX5_answer_55 rfl (lv_at hl 3 rfl) ?_
        refine lv_bipush (v := 6) hx hb dX5_answer_56 (by decide) ?_
        refine lv_icmp_ne (tgt := 133) hx hb dX5_answer_58 (by decide) (fun c_58 => ?_) (fun c_58 => ?_)
        · refine lv_iload_n hx hb dX5_answer_133 rfl (lv_at hl 3 rfl) ?_
          refine lv_iconst (v := 4) hx hb dX5_answer_134 (by decide) ?_
          refine lv_icmp_ne (tgt := 192) hx hb dX5_answer_135 (by decide) (fun c_135 => absurd hx6 (by rintro (h | h | h) <;> contradiction)) (fun c_135 => ?_)
          refine lv_aload_n hx hb dX5_answer_138 rfl (lv_at hl 0 rfl) ?_
          refine qr_get (ci := 5) (C := RX5) (T := TX5) (N := 19) hx hb hts hin5 hown hK hW.self rfl 3 (by decide) (hts (.fieldLink RX5 13 "QuorumLockModel" "state" "[I") (by decide +kernel)) rfl dX5_answer_139 ?_
          refine lv_iload_n hx hb dX5_answer_142 rfl (lv_at hl 1 rfl) ?_
          refine qr_iald (v := (σ.1 1 i)) hx hb hK hW.a2 i (by omega) (by omega) rfl (hRp.t 1 i (by decide) hi) dX5_answer_143 ?_
          refine lv_iconst (v := 1) hx hb dX5_answer_144 (by decide) ?_
          refine lv_icmp_ne (tgt := 192) hx hb dX5_answer_145 (by decide) (fun c_145 => ?_) (fun c_145 => ?_)
          · have hfin : qR dd ga n k ar (q_do n σ i j x t) s.heap := by
              have h9 : q_do n σ i j x t = σ := by rw [hdo]; simp [c_135, q_inquire, c_145]
              rw [h9]; exact ⟨ρ, hRp, hW⟩
            exact q_vret hx hb hr hlocks hS hfin dX5_answer_192
          · refine lv_aload_n hx hb dX5_answer_148 rfl (lv_at hl 0 rfl) ?_
            refine qr_get (ci := 5) (C := RX5) (T := TX5) (N := 19) hx hb hts hin5 hown hK hW.self rfl 5 (by decide) (hts (.fieldLink RX5 19 "QuorumLockModel" "votes" "[I") (by decide +kernel)) rfl dX5_answer_149 ?_
            refine lv_iload_n hx hb dX5_answer_152 rfl (lv_at hl 1 rfl) ?_
            refine qr_iald (v := (σ.1 3 i)) hx hb hK hW.a4 i (by omega) (by omega) rfl (hRp.t 3 i (by decide) hi) dX5_answer_153 ?_
            refine lv_iload_n hx hb dX5_answer_154 rfl (lv_at hl 2 rfl) ?_
            refine lv_ishr hx hb dX5_answer_155 ?_
            refine lv_iconst (v := 1) hx hb dX5_answer_156 (by decide) ?_
            refine lv_iand hx hb dX5_answer_157 ?_
            refine lv_iconst (v := 1) hx hb dX5_answer_158 (by decide) ?_
            refine lv_icmp_ne (tgt := 192) hx hb dX5_answer_159 (by decide) (fun c_159 => ?_) (fun c_159 => ?_)
            · have hfin : qR dd ga n k ar (q_do n σ i j x t) s.heap := by
                have h9 : q_do n σ i j x t = σ := by rw [hdo, if_neg c_23, if_pos c_135, q_inquire, if_neg (fun h => c_159 (q_hasI.mpr h.2))]
                rw [h9]; exact ⟨ρ, hRp, hW⟩
              exact q_vret hx hb hr hlocks hS hfin dX5_answer_192
            · refine lv_aload_n hx hb dX5_answer_162 rfl (lv_at hl 0 rfl) ?_
              refine qr_get (ci := 5) (C := RX5) (T := TX5) (N := 19) hx hb hts hin5 hown hK hW.self rfl 6 (by decide) (hts (.fieldLink RX5 22 "QuorumLockModel" "failures" "[I") (by decide +kernel)) rfl dX5_answer_163 ?_
              refine lv_iload_n hx hb dX5_answer_166 rfl (lv_at hl 1 rfl) ?_
              refine qr_iald (v := (σ.1 4 i)) hx hb hK hW.a5 i (by omega) (by omega) rfl (hRp.t 4 i (by decide) hi) dX5_answer_167 ?_
              refine lv_if_eq (tgt := 180) hx hb dX5_answer_168 (by decide) (fun c_168 => ?_) (fun c_168 => ?_)
              · refine lv_aload_n hx hb dX5_answer_180 rfl (lv_at hl 0 rfl) ?_
                refine qr_get (ci := 5) (C := RX5) (T := TX5) (N := 19) hx hb hts hin5 hown hK hW.self rfl 7 (by decide) (hts (.fieldLink RX5 25 "QuorumLockModel" "inquiries" "[I") (by decide +kernel)) rfl dX5_answer_181 ?_
                refine lv_iload_n hx hb dX5_answer_184 rfl (lv_at hl 1 rfl) ?_
                refine lv_dup2_11 hx hb dX5_answer_185 rfl rfl ?_
                refine qr_iald (v := (σ.1 5 i)) hx hb hK hW.a6 i (by omega) (by omega) rfl (hRp.t 5 i (by decide) hi) dX5_answer_186 ?_
                refine lv_iconst (v := 1) hx hb dX5_answer_187 (by decide) ?_
                refine lv_iload_n hx hb dX5_answer_188 rfl (lv_at hl 2 rfl) ?_
                refine lv_ishl hx hb dX5_answer_189 ?_
                refine lv_ior hx hb dX5_answer_190 ?_
                refine q_ti (y := σ.1 5 i ||| q_bit j) (rfl) ?_
                refine qr_iast hx hb hK hW.a6 hS (⟨6, by decide, rfl⟩) i (by omega) (by omega) rfl dX5_answer_191 (fun H locs hz9 ho9 hat9 hS => ?_)
                have hW := hW.put hL 6 i (σ.1 5 i ||| q_bit j) (by decide) (by decide) ho9 hat9
                have hfin : qR dd ga n k ar (q_do n σ i j x t) H := by rw [hdo, if_neg c_23, if_pos c_135, q_inquire, if_pos ⟨⟨c_145, c_17⟩, q_hasI.mp c_159⟩, if_neg (fun h => h c_168)]; exact ⟨_, hRp.stb 5 i (σ.1 5 i ||| q_bit j) (by decide), hW⟩
                exact q_vret hx hb hr hlocks hS hfin dX5_answer_192
              · refine lv_aload_n hx hb dX5_answer_171 rfl (lv_at hl 0 rfl) ?_
                refine lv_iload_n hx hb dX5_answer_172 rfl (lv_at hl 1 rfl) ?_
                refine lv_iload_n hx hb dX5_answer_173 rfl (lv_at hl 2 rfl) ?_
                refine qc_v (va_runV (As := [.int (nI i), .int (nI j)]) (rest := []) ⟨hx, hb, hml, hown, hts⟩ (c_X5_giveUp l dd ga n k ar σ hsq hL i j hi hj (by have := hroom j hj; omega)) (cwV 2 hts gX5_answer_X5_giveUp rfl rfl rfl (by decide +kernel) ⟨Nat.le_of_ble_eq_true rfl, Nat.le_of_ble_eq_true rfl⟩) (qpreV hK (⟨ρ, hRp, hW⟩) hW.self rfl) rfl rfl hl.1 rfl (lv_room (Nat.le_of_ble_eq_true rfl)) dX5_answer_174 ⟨Nat.zero_le _, Nat.zero_le _⟩) hS (fun q h => h) (fun H locs hp9 hz9 ho9 hS => ?_)
                have hfin : qR dd ga n k ar (q_do n σ i j x t) H := by rw [hdo, if_neg c_23, if_pos c_135, q_inquire, if_pos ⟨⟨c_145, c_17⟩, q_hasI.mp c_159⟩, if_pos c_168]; exact hp9
                refine lv_goto (tgt := 192) hx hb dX5_answer_177 (by decide) ?_
                exact q_vret hx hb hr hlocks hS hfin dX5_answer_192
        · refine lv_aload_n hx hb dX5_answer_61 rfl (lv_at hl 0 rfl) ?_
          refine qr_get (ci := 5) (C := RX5) (T := TX5) (N := 19) hx hb hts hin5 hown hK hW.self rfl 3 (by decide) (hts (.fieldLink RX5 13 "QuorumLockModel" "state" "[I") (by decide +kernel)) rfl dX5_answer_62 ?_
          refine lv_iload_n hx hb dX5_answer_65 rfl (lv_at hl 1 rfl) ?_
          refine qr_iald (v := (σ.1 1 i)) hx hb hK hW.a2 i (by omega) (by omega) rfl (hRp.t 1 i (by decide) hi) dX5_answer_66 ?_
          refine lv_iconst (v := 1) hx hb dX5_answer_67 (by decide) ?_
          refine lv_icmp_ne (tgt := 133) hx hb dX5_answer_68 (by decide) (fun c_68 => ?_) (fun c_68 => ?_)
          · have hfin : qR dd ga n k ar (q_do n σ i j x t) s.heap := by
              have h9 : q_do n σ i j x t = σ := by rw [hdo]; simp [c_58, q_failed, c_68]
              rw [h9]; exact ⟨ρ, hRp, hW⟩
            refine lv_iload_n hx hb dX5_answer_133 rfl (lv_at hl 3 rfl) ?_
            refine lv_iconst (v := 4) hx hb dX5_answer_134 (by decide) ?_
            refine lv_icmp_ne (tgt := 192) hx hb dX5_answer_135 (by decide) (fun c_135 => ?_) (fun c_135 => absurd (c_58.symm.trans c_135) (by decide))
            exact q_vret hx hb hr hlocks hS hfin dX5_answer_192
          · refine lv_aload_n hx hb dX5_answer_71 rfl (lv_at hl 0 rfl) ?_
            refine qr_get (ci := 5) (C := RX5) (T := TX5) (N := 19) hx hb hts hin5 hown hK hW.self rfl 6 (by decide) (hts (.fieldLink RX5 22 "QuorumLockModel" "failures" "[I") (by decide +kernel)) rfl dX5_answer_72 ?_
            refine lv_iload_n hx hb dX5_answer_75 rfl (lv_at hl 1 rfl) ?_
            refine lv_dup2_11 hx hb dX5_answer_76 rfl rfl ?_
            refine qr_iald (v := (σ.1 4 i)) hx hb hK hW.a5 i (by omega) (by omega) rfl (hRp.t 4 i (by decide) hi) dX5_answer_77 ?_
            refine lv_iconst (v := 1) hx hb dX5_answer_78 (by decide) ?_
            refine lv_iload_n hx hb dX5_answer_79 rfl (lv_at hl 2 rfl) ?_
            refine lv_ishl hx hb dX5_answer_80 ?_
            refine lv_ior hx hb dX5_answer_81 ?_
            refine q_ti (y := σ.1 4 i ||| q_bit j) (rfl) ?_
            refine qr_iast hx hb hK hW.a5 hS (⟨5, by decide, rfl⟩) i (by omega) (by omega) rfl dX5_answer_82 (fun H locs hz9 ho9 hat9 hS => ?_)
            have hW := hW.put hL 5 i (σ.1 4 i ||| q_bit j) (by decide) (by decide) ho9 hat9
            refine lv_iconst (v := nI 0) hx hb dX5_answer_83 (by decide) ?_
            refine lv_istore (lv' := [(5, .int (nI 0)), (0, .ref (ar 0)), (1, .int (nI i)), (2, .int (nI j)), (3, .int x), (4, .int t)]) hx hb dX5_answer_84 hl (by decide) rfl (fun ls hl => ?_)
            exact hloop c_58 ⟨c_68, c_17⟩ n 0 (s_tb σ 4 i (σ.1 4 i ||| q_bit j)) ls _ _ (by omega) (by rw [q_failed, if_pos ⟨c_68, c_17⟩]) (fun t _ h => hroom t h) ⟨_, hRp.stb 4 i (σ.1 4 i ||| q_bit j) (by decide), hW⟩ hS (lv_sub hl [0, 1, 2] rfl)
      · refine lv_aload_n hx hb dX5_answer_26 rfl (lv_at hl 0 rfl) ?_
        refine qr_get (ci := 5) (C := RX5) (T := TX5) (N := 19) hx hb hts hin5 hown hK hW.self rfl 5 (by decide) (hts (.fieldLink RX5 19 "QuorumLockModel" "votes" "[I") (by decide +kernel)) rfl dX5_answer_27 ?_
        refine lv_iload_n hx hb dX5_answer_30 rfl (lv_at hl 1 rfl) ?_
        refine lv_dup2_11 hx hb dX5_answer_31 rfl rfl ?_
        refine qr_iald (v := (σ.1 3 i)) hx hb hK hW.a4 i (by omega) (by omega) rfl (hRp.t 3 i (by decide) hi) dX5_answer_32 ?_
        refine lv_iconst (v := 1) hx hb dX5_answer_33 (by decide) ?_
        refine lv_iload_n hx hb dX5_answer_34 rfl (lv_at hl 2 rfl) ?_
        refine lv_ishl hx hb dX5_answer_35 ?_
        refine lv_ior hx hb dX5_answer_36 ?_
        refine q_ti (y := σ.1 3 i ||| q_bit j) (rfl) ?_
        refine qr_iast hx hb hK hW.a4 hS (⟨4, by decide, rfl⟩) i (by omega) (by omega) rfl dX5_answer_37 (fun H locs hz9 ho9 hat9 hS => ?_)
        have hW := hW.put hL 4 i (σ.1 3 i ||| q_bit j) (by decide) (by decide) ho9 hat9
        refine lv_aload_n hx hb dX5_answer_38 rfl (lv_at hl 0 rfl) ?_
        refine qr_get (ci := 5) (C := RX5) (T := TX5) (N := 19) hx hb hts hin5 hown hK hW.self rfl 6 (by decide) (hts (.fieldLink RX5 22 "QuorumLockModel" "failures" "[I") (by decide +kernel)) rfl dX5_answer_39 ?_
        refine lv_iload_n hx hb dX5_answer_42 rfl (lv_at hl 1 rfl) ?_
        refine lv_dup2_11 hx hb dX5_answer_43 rfl rfl ?_
        refine qr_iald (v := (σ.1 4 i)) hx hb hK hW.a5 i (by omega) (by omega) rfl (by simp [q2]; exact hRp.t 4 i (by decide) hi) dX5_answer_44 ?_
        refine lv_iconst (v := 1) hx hb dX5_answer_45 (by decide) ?_
        refine lv_iload_n hx hb dX5_answer_46 rfl (lv_at hl 2 rfl) ?_
        refine lv_ishl hx hb dX5_answer_47 ?_
        refine lv_iconst (v := (-1)) hx hb dX5_answer_48 (by decide) ?_
        refine lv_ixor hx hb dX5_answer_49 ?_
        refine lv_iand hx hb dX5_answer_50 ?_
        refine q_ti (y := σ.1 4 i &&& q_nbit j) (rfl) ?_
        refine qr_iast hx hb hK hW.a5 hS (⟨5, by decide, rfl⟩) i (by omega) (by omega) rfl dX5_answer_51 (fun H locs hz9 ho9 hat9 hS => ?_)
        have hW := hW.put hL 5 i (σ.1 4 i &&& q_nbit j) (by decide) (by decide) ho9 hat9
        have hfin : qR dd ga n k ar (q_do n σ i j x t) H := by rw [hdo, if_pos c_23, q_locked, if_pos ⟨c_6, c_17⟩]; exact ⟨_, (hRp.stb 3 i (σ.1 3 i ||| q_bit j) (by decide)).stb 4 i (σ.1 4 i &&& q_nbit j) (by decide), hW⟩
        refine lv_goto (tgt := 192) hx hb dX5_answer_52 (by decide) ?_
        exact q_vret hx hb hr hlocks hS hfin dX5_answer_192
    · have hfin : qR dd ga n k ar (q_do n σ i j x t) s.heap := by
        have h9 : q_do n σ i j x t = σ := by rw [hdo]; rcases hx6 with h | h | h <;> simp [h, q_locked, q_inquire, q_failed, c_17]
        rw [h9]; exact ⟨ρ, hRp, hW⟩
      exact q_vret hx hb hr hlocks hS hfin dX5_answer_20
