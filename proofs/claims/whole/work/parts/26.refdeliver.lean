/-- a wire's oldest message goes, the rest moves up -/
theorem qRp.pop {n : Nat} {σ : qSt} {ρ ρ' : Nat → Nat → Int32} {f t : Nat} {x : qM} {w : List qM} (hf : f < 16) (ht : t < 16) (h : qRp n σ ρ) (hw : σ.2.2.2.1 f t = x :: w) (hft : f < n ∧ t < n)
    (e0 : ∀ b j, b ≠ 13 → b ≠ 14 → b ≠ 15 → b ≠ 16 → ρ' b j = ρ b j) (e1 : ∀ j, j ≠ 16 * f + t → ρ' 13 j = ρ 13 j) (e2 : ρ' 13 (16 * f + t) = nI w.length) (e3 : ∀ b j, 14 ≤ b → b ≤ 16 → ¬ (64 * (16 * f + t) ≤ j ∧ j < 64 * (16 * f + t) + 64) → ρ' b j = ρ b j)
    (e4 : ∀ b j, 14 ≤ b → b ≤ 16 → j < w.length → ρ' b (64 * (16 * f + t) + j) = ρ b (64 * (16 * f + t) + (j + 1))) : qRp n (s_wr σ f t w) ρ' := by
  have hb := h.2.2.2.1 f t hf ht
  rw [hw] at hb
  have hl : w.length + 1 ≤ 32 := hb.2.1
  refine ⟨fun g j hg hj => ?_, fun j hj => ?_, fun j hj => ?_, fun f9 t9 hf9 ht9 => ?_, fun f9 t9 hc => ?_⟩
  · have := q_ai_n hg
    rw [e0 _ _ (by omega) (by omega) (by omega) (by omega)]; exact h.1 g j hg hj
  · rw [e0 7 j (by omega) (by omega) (by omega) (by omega), e0 8 j (by omega) (by omega) (by omega) (by omega)]; exact h.2.1 j hj
  · rw [e0 10 j (by omega) (by omega) (by omega) (by omega)]
    refine ⟨(h.2.2.1 j hj).1, (h.2.2.1 j hj).2.1, fun j9 x9 hx => ?_⟩
    rw [e0 11 _ (by omega) (by omega) (by omega) (by omega), e0 12 _ (by omega) (by omega) (by omega) (by omega)]
    exact (h.2.2.1 j hj).2.2 j9 x9 hx
  · show _ = nI (q2 σ.2.2.2.1 f t w f9 t9).length ∧ (q2 σ.2.2.2.1 f t w f9 t9).length ≤ 32 ∧ ∀ (j : Nat) (x : qM), (q2 σ.2.2.2.1 f t w f9 t9)[j]? = some x → _
    by_cases hc : f9 = f ∧ t9 = t
    · obtain ⟨rfl, rfl⟩ := hc
      rw [q2_s]
      refine ⟨e2, by omega, fun j x9 hx => ?_⟩
      have h4 := (List.getElem?_eq_some_iff.mp hx).1
      rw [e4 14 j (by omega) (by omega) h4, e4 15 j (by omega) (by omega) h4, e4 16 j (by omega) (by omega) h4]
      exact hb.2.2 (j + 1) x9 (by rw [List.getElem?_cons_succ]; exact hx)
    · rw [q2_n hc, e1 _ (by omega)]
      have hb9 := h.2.2.2.1 f9 t9 hf9 ht9
      refine ⟨hb9.1, hb9.2.1, fun j x9 hx => ?_⟩
      have h4 := (List.getElem?_eq_some_iff.mp hx).1
      rw [e3 14 _ (by omega) (by omega) (by omega), e3 15 _ (by omega) (by omega) (by omega), e3 16 _ (by omega) (by omega) (by omega)]
      exact hb9.2.2 j x9 hx
  · show q2 σ.2.2.2.1 f t w f9 t9 = []
    rw [q2_n (fun h9 => hc (by obtain ⟨rfl, rfl⟩ := h9; exact hft))]
    exact h.2.2.2.2 f9 t9 hc
theorem q_maxR (c d : Int32) : q_max d c = if c ≤ d then d else c := by
  unfold q_max
  by_cases h : c ≤ d
  · rw [if_pos h, if_neg (Int32.not_lt.mpr h)]
  · rw [if_neg h, if_pos (Int32.not_le.mp h)]
set_option maxHeartbeats 4000000 in
set_option maxRecDepth 100000 in
/-- X5_deliver -/
theorem c_X5_deliverY (l : Launch) (dd : va_G) (ga : Nat → ClassId) (n k : Nat) (ar : Nat → Nat) (σ : qSt) (hsq : qSq n k) (hL : qLr ar) (f t : Nat) (hf : f < n) (ht : t < n) (hcap : qCap n k σ) (hkd : ∀ x ∈ σ.2.2.2.1 f t, x.1 = 1 ∨ x.1 = 2 ∨ x.1 = 3 ∨ x.1 = 4 ∨ x.1 = 5 ∨ x.1 = 6) : Met l yX5_deliver wsX5_deliver ({ frames := 3, cells := 0, slots := 0, locals := 76 }) (qPc dd ga [.ref (ar 0), .int (nI f), .int (nI t)] (fun H => qR dd ga n k ar σ H)) (qQi (fun v H => v = (q_deliver n σ f t).1 ∧ qR dd ga n k ar (q_deliver n σ f t).2 H) (qAr ar)) 0 0 (qAr ar) := by
  refine Met.ofW (cc := cX5_deliver) (maxL := 9) (ret := (some .int)) (by decide) rfl ?_
  intro p e s m args below meth c s₁ B hml hv
  obtain ⟨rfl, ⟨ρ, hRp, hW⟩, hK⟩ := hv
  have hx := B.exec
  have hb := B.bytes
  have hr := B.returns
  have hts := atoms_spec (ws := wsX5_deliver) B.pre
  have hown : s.vm.findClass RX5 = some m.cls := findClass_of_methodNamed B.named
  have hlocks := B.notSynchronized
  have hS : qS (qAr ar) s.heap s.heap [] := qS.rf
  have hl := lv_entry ([.ref (ar 0), .int (nI f), .int (nI t)]) (n := 9) (Nat.le_of_ble_eq_true rfl)
  rw [lg_entry_eq]
  generalize (lg_sl ([.ref (ar 0), .int (nI f), .int (nI t)]) ++ List.replicate (9 - (lg_sl ([.ref (ar 0), .int (nI f), .int (nI t)])).length) Slot.unset).toArray = ls at hl ⊢
  have hin5 : ∀ w ∈ wsX50, w ∈ wsX5_deliver := by decide +kernel
  have hn1 := hsq.n.1
  have hn16 := hsq.n.2
  have hwb := hRp.2.2.2.1 f t (by omega) (by omega)
  rcases hw9 : σ.2.2.2.1 f t with _ | ⟨x9, w9⟩
  · refine lv_aload_n hx hb dX5_deliver_0 rfl (lv_at hl 0 rfl) ?_
    refine lv_iload_n hx hb dX5_deliver_1 rfl (lv_at hl 1 rfl) ?_
    refine qc_i (va_runV (As := [.int (nI f)]) (rest := []) ⟨hx, hb, hml, hown, hts⟩ (c_X5_isNode l dd ga n k ar σ hsq hL (nI f)) (cwV 1 hts gX5_deliver_X5_isNode rfl rfl rfl (by decide +kernel) ⟨Nat.le_of_ble_eq_true rfl, Nat.le_of_ble_eq_true rfl⟩) (qpreV hK (⟨ρ, hRp, hW⟩) hW.self rfl) rfl rfl hl.1 rfl (lv_room (Nat.le_of_ble_eq_true rfl)) dX5_deliver_2 ⟨Nat.zero_le _, Nat.zero_le _⟩) hS (fun q h => h.elim) (fun v2 H locs hp9 hz9 ho9 hS => ?_)
    have ev2 : v2 = _ := hp9
    have hW := hW.same (fun q => ho9 q (fun h => h))
    refine lv_if_eq (tgt := 16) hx hb dX5_deliver_5 (by decide) (fun c_5 => absurd c_5 (by rw [ev2, if_pos (q_nodeY hn16 hf)]; decide)) (fun c_5 => ?_)
    refine lv_aload_n hx hb dX5_deliver_8 rfl (lv_at hl 0 rfl) ?_
    refine lv_iload_n hx hb dX5_deliver_9 rfl (lv_at hl 2 rfl) ?_
    refine qc_i (va_runV (As := [.int (nI t)]) (rest := []) ⟨hx, hb, hml, hown, hts⟩ (c_X5_isNode l dd ga n k ar σ hsq hL (nI t)) (cwV 1 hts gX5_deliver_X5_isNode rfl rfl rfl (by decide +kernel) ⟨Nat.le_of_ble_eq_true rfl, Nat.le_of_ble_eq_true rfl⟩) (qpreV hK (⟨ρ, hRp, hW⟩) hW.self rfl) rfl rfl hl.1 rfl (lv_room (Nat.le_of_ble_eq_true rfl)) dX5_deliver_10 ⟨Nat.zero_le _, Nat.zero_le _⟩) hS (fun q h => h.elim) (fun v10 H locs hp9 hz9 ho9 hS => ?_)
    have ev10 : v10 = _ := hp9
    have hW := hW.same (fun q => ho9 q (fun h => h))
    refine lv_if_ne (tgt := 18) hx hb dX5_deliver_13 (by decide) (fun c_13 => ?_) (fun c_13 => absurd c_13 (by rw [ev10, if_pos (q_nodeY hn16 ht)]; decide))
    refine lv_bipush (v := nI 16) hx hb dX5_deliver_18 (by decide) ?_
    refine lv_iload_n hx hb dX5_deliver_20 rfl (lv_at hl 1 rfl) ?_
    refine lv_imul hx hb dX5_deliver_21 ?_
    refine q_ti (y := nI (16 * f)) (pk_mul _ _) ?_
    refine lv_iload_n hx hb dX5_deliver_22 rfl (lv_at hl 2 rfl) ?_
    refine lv_iadd hx hb dX5_deliver_23 ?_
    refine q_ti (y := nI (16 * f + t)) (nI_add _ _) ?_
    refine lv_istore_n (lv' := [(3, .int (nI (16 * f + t))), (0, .ref (ar 0)), (1, .int (nI f)), (2, .int (nI t))]) hx hb dX5_deliver_24 rfl hl (by decide) rfl (fun ls hl => ?_)
    refine lv_aload_n hx hb dX5_deliver_25 rfl (lv_at hl 1 rfl) ?_
    refine qr_get (ci := 5) (C := RX5) (T := TX5) (N := 19) hx hb hts hin5 hown hK hW.self rfl 14 (by decide) (hts (.fieldLink RX5 47 "QuorumLockModel" "lying" "[I") (by decide +kernel)) rfl dX5_deliver_26 ?_
    refine lv_iload_n hx hb dX5_deliver_29 rfl (lv_at hl 0 rfl) ?_
    refine qr_iald (v := (nI (σ.2.2.2.1 f t).length)) hx hb hK hW.a13 (16 * f + t) (by omega) (by omega) rfl hwb.1 dX5_deliver_30 ?_
    refine lv_if_ne (tgt := 36) hx hb dX5_deliver_31 (by decide) (fun c_31 => absurd (by rw [hw9]; rfl) c_31) (fun c_31 => ?_)
    refine lv_iconst (v := 0) hx hb dX5_deliver_34 (by decide) ?_
    exact q_iret hx hb hr hlocks hS (by rw [q_deliver_nil hw9]; exact ⟨rfl, ρ, hRp, hW⟩) dX5_deliver_35
  · rw [hw9] at hwb
    have hl6 := hcap.1 f t hf ht
    have hl6 : w9.length + 1 ≤ 6 := by rw [hw9] at hl6; exact hl6
    have hx0 := hwb.2.2 0 x9 rfl
    have hk9 := hkd x9 (by rw [hw9]; exact List.mem_cons_self)
    have hdone : ∀ (ρ : Nat → Nat → Int32) (H : Heap) (locs : List Loc) (ls : Array Slot) (p9 : Nat), qRp n (s_wr σ f t w9) ρ → qR0 dd ga n k ar ρ σ.2.2.2.2 H → qS (qAr ar) s.heap H locs → lv_has ls 9 [(8, .int (nI p9)), (0, .ref (ar 0)), (1, .int (nI f)), (2, .int (nI t)), (3, .int (nI (16 * f + t))), (4, .int (nI (64 * (16 * f + t)))), (5, .int x9.1), (6, .int x9.2.1), (7, .int x9.2.2)] → W p l e (headSpec wsX5_deliver ({ frames := 3, cells := 0, slots := 0, locals := 76 })).room s m (([.ref (ar 0), .int (nI f), .int (nI t)] : List Value).toArray) below meth c H locs 0 0 (MQ below (qQi (fun v H => v = (q_deliver n σ f t).1 ∧ qR dd ga n k ar (q_deliver n σ f t).2 H) (qAr ar)) (([.ref (ar 0), .int (nI f), .int (nI t)] : List Value).toArray) s 0 0 (qAr ar)) (F0 m 165 ls []) := by
      intro ρ H locs ls p9 hRp hW hS hl
      refine lv_aload_n hx hb dX5_deliver_165 rfl (lv_at hl 1 rfl) ?_
      refine qr_get (ci := 5) (C := RX5) (T := TX5) (N := 19) hx hb hts hin5 hown hK hW.self rfl 2 (by decide) (hts (.fieldLink RX5 7 "QuorumLockModel" "clock" "[I") (by decide +kernel)) rfl dX5_deliver_166 ?_
      refine lv_iload_n hx hb dX5_deliver_169 rfl (lv_at hl 3 rfl) ?_
      refine lv_iload hx hb dX5_deliver_170 (lv_at hl 8 rfl) ?_
      refine lv_aload_n hx hb dX5_deliver_172 rfl (lv_at hl 1 rfl) ?_
      refine qr_get (ci := 5) (C := RX5) (T := TX5) (N := 19) hx hb hts hin5 hown hK hW.self rfl 2 (by decide) (hts (.fieldLink RX5 7 "QuorumLockModel" "clock" "[I") (by decide +kernel)) rfl dX5_deliver_173 ?_
      refine lv_iload_n hx hb dX5_deliver_176 rfl (lv_at hl 3 rfl) ?_
      refine qr_iald (v := (σ.1 0 t)) hx hb hK hW.a1 t (by omega) (by omega) rfl (hRp.t 0 t (by decide) ht) dX5_deliver_177 ?_
      refine lv_icmp_le (tgt := 186) hx hb dX5_deliver_178 (by decide) (fun c_178 => ?_) (fun c_178 => ?_)
      · refine lv_aload_n hx hb dX5_deliver_186 rfl (lv_at hl 1 rfl) ?_
        refine qr_get (ci := 5) (C := RX5) (T := TX5) (N := 19) hx hb hts hin5 hown hK hW.self rfl 2 (by decide) (hts (.fieldLink RX5 7 "QuorumLockModel" "clock" "[I") (by decide +kernel)) rfl dX5_deliver_187 ?_
        refine lv_iload_n hx hb dX5_deliver_190 rfl (lv_at hl 3 rfl) ?_
        refine qr_iald (v := (σ.1 0 t)) hx hb hK hW.a1 t (by omega) (by omega) rfl (hRp.t 0 t (by decide) ht) dX5_deliver_191 ?_
        refine lv_iconst (v := 1) hx hb dX5_deliver_192 (by decide) ?_
        refine lv_iadd hx hb dX5_deliver_193 ?_
        refine q_ti (y := q_max (σ.1 0 t) x9.2.2 + 1) (by rw [q_maxR, if_pos c_178]) ?_
        refine qr_iast hx hb hK hW.a1 hS (⟨1, by decide, rfl⟩) t (by omega) (by omega) rfl dX5_deliver_194 (fun H locs hz9 ho9 hat9 hS => ?_)
        have hW := hW.put hL 1 t (q_max (σ.1 0 t) x9.2.2 + 1) (by decide) (by decide) ho9 hat9
        obtain ⟨ρ, hRp, hW⟩ : ∃ ρ9, qRp n (s_tb (s_wr σ f t w9) 0 t (q_max (σ.1 0 t) x9.2.2 + 1)) ρ9 ∧ qR0 dd ga n k ar ρ9 σ.2.2.2.2 H := ⟨_, hRp.stb 0 t (q_max (σ.1 0 t) x9.2.2 + 1) (by decide), hW⟩
        have hcap2 : qCap n k (s_tb (s_wr σ f t w9) 0 t (q_max (σ.1 0 t) x9.2.2 + 1)) := hcap.pop hw9 (q_max (σ.1 0 t) x9.2.2 + 1)
        have hdel : q_deliver n σ f t = (x9.1, q_do n (s_tb (s_wr σ f t w9) 0 t (q_max (σ.1 0 t) x9.2.2 + 1)) t f x9.1 x9.2.1) := q_deliver_cons hw9
        refine lv_iload hx hb dX5_deliver_195 (lv_at hl 6 rfl) ?_
        refine lv_iconst (v := 1) hx hb dX5_deliver_197 (by decide) ?_
        refine lv_icmp_ne (tgt := 212) hx hb dX5_deliver_198 (by decide) (fun c_198 => ?_) (fun c_198 => ?_)
        · refine lv_iload hx hb dX5_deliver_212 (lv_at hl 6 rfl) ?_
          refine lv_iconst (v := 3) hx hb dX5_deliver_214 (by decide) ?_
          refine lv_icmp_eq (tgt := 224) hx hb dX5_deliver_215 (by decide) (fun c_215 => ?_) (fun c_215 => ?_)
          · refine lv_aload_n hx hb dX5_deliver_224 rfl (lv_at hl 1 rfl) ?_
            refine lv_iload_n hx hb dX5_deliver_225 rfl (lv_at hl 3 rfl) ?_
            refine lv_iload_n hx hb dX5_deliver_226 rfl (lv_at hl 2 rfl) ?_
            refine lv_iload hx hb dX5_deliver_227 (lv_at hl 7 rfl) ?_
            refine lv_iload hx hb dX5_deliver_229 (lv_at hl 6 rfl) ?_
            refine lv_iconst (v := 5) hx hb dX5_deliver_231 (by decide) ?_
            have hk3 : x9.1 = 3 := c_215
            refine lv_icmp_ne (tgt := 239) hx hb dX5_deliver_232 (by decide) (fun c_232 => ?_) (fun c_232 => absurd (c_215.symm.trans c_232) (by decide))
            refine lv_iconst (v := 0) hx hb dX5_deliver_239 (by decide) ?_
            refine qc_v (va_runV (As := [.int (nI t), .int (nI f), .int x9.2.1, .int 0]) (rest := []) ⟨hx, hb, hml, hown, hts⟩ (c_X5_home0 l dd ga n k ar (s_tb (s_wr σ f t w9) 0 t (q_max (σ.1 0 t) x9.2.2 + 1)) hsq hL t f ht hf x9.2.1 hcap2) (cwV 4 hts gX5_deliver_X5_home rfl rfl rfl (by decide +kernel) ⟨Nat.le_of_ble_eq_true rfl, Nat.le_of_ble_eq_true rfl⟩) (qpreV hK (⟨ρ, hRp, hW⟩) hW.self rfl) rfl rfl hl.1 rfl (lv_room (Nat.le_of_ble_eq_true rfl)) dX5_deliver_240 ⟨Nat.zero_le _, Nat.zero_le _⟩) hS (fun q h => h) (fun H locs hp9 hz9 ho9 hS => ?_)
            have hfin : qR dd ga n k ar (q_deliver n σ f t).2 H := by rw [hdel]; simp only [q_do, if_neg c_198, if_neg (show ¬ x9.1 = 2 by rw [hk3]; decide), if_pos hk3]; exact hp9
            refine lv_goto (tgt := 256) hx hb dX5_deliver_243 (by decide) ?_
            refine lv_iload hx hb dX5_deliver_256 (lv_at hl 6 rfl) ?_
            exact q_iret hx hb hr hlocks hS (⟨by rw [hdel], hfin⟩) dX5_deliver_258
          · refine lv_iload hx hb dX5_deliver_218 (lv_at hl 6 rfl) ?_
            refine lv_iconst (v := 5) hx hb dX5_deliver_220 (by decide) ?_
            refine lv_icmp_ne (tgt := 246) hx hb dX5_deliver_221 (by decide) (fun c_221 => ?_) (fun c_221 => ?_)
            · refine lv_aload_n hx hb dX5_deliver_246 rfl (lv_at hl 1 rfl) ?_
              refine lv_iload_n hx hb dX5_deliver_247 rfl (lv_at hl 3 rfl) ?_
              refine lv_iload_n hx hb dX5_deliver_248 rfl (lv_at hl 2 rfl) ?_
              refine lv_iload hx hb dX5_deliver_249 (lv_at hl 6 rfl) ?_
              refine lv_iload hx hb dX5_deliver_251 (lv_at hl 7 rfl) ?_
              refine qc_v (va_runV (As := [.int (nI t), .int (nI f), .int x9.1, .int x9.2.1]) (rest := []) ⟨hx, hb, hml, hown, hts⟩ (c_X5_answer l dd ga n k ar (s_tb (s_wr σ f t w9) 0 t (q_max (σ.1 0 t) x9.2.2 + 1)) hsq hL t f ht hf x9.1 x9.2.1 c_198 c_215 c_221 (by rcases hk9 with h | h | h | h | h | h <;> first | exact absurd h c_198 | exact absurd h c_215 | exact absurd h c_221 | simp [h]) (fun t9 h9 => hcap2.1 t t9 ht h9)) (cwV 4 hts gX5_deliver_X5_answer rfl rfl rfl (by decide +kernel) ⟨Nat.le_of_ble_eq_true rfl, Nat.le_of_ble_eq_true rfl⟩) (qpreV hK (⟨ρ, hRp, hW⟩) hW.self rfl) rfl rfl hl.1 rfl (lv_room (Nat.le_of_ble_eq_true rfl)) dX5_deliver_253 ⟨Nat.zero_le _, Nat.zero_le _⟩) hS (fun q h => h) (fun H locs hp9 hz9 ho9 hS => ?_)
              have hfin : qR dd ga n k ar (q_deliver n σ f t).2 H := by rw [hdel]; exact hp9
              refine lv_iload hx hb dX5_deliver_256 (lv_at hl 6 rfl) ?_
              exact q_iret hx hb hr hlocks hS (⟨by rw [hdel], hfin⟩) dX5_deliver_258
            · refine lv_aload_n hx hb dX5_deliver_224 rfl (lv_at hl 1 rfl) ?_
              refine lv_iload_n hx hb dX5_deliver_225 rfl (lv_at hl 3 rfl) ?_
              refine lv_iload_n hx hb dX5_deliver_226 rfl (lv_at hl 2 rfl) ?_
              refine lv_iload hx hb dX5_deliver_227 (lv_at hl 7 rfl) ?_
              refine lv_iload hx hb dX5_deliver_229 (lv_at hl 6 rfl) ?_
              refine lv_iconst (v := 5) hx hb dX5_deliver_231 (by decide) ?_
              refine lv_icmp_ne (tgt := 239) hx hb dX5_deliver_232 (by decide) (fun c_232 => absurd c_221 c_232) (fun c_232 => ?_)
              refine lv_iconst (v := 1) hx hb dX5_deliver_235 (by decide) ?_
              refine lv_goto (tgt := 240) hx hb dX5_deliver_236 (by decide) ?_
              refine qc_v (va_runV (As := [.int (nI t), .int (nI f), .int x9.2.1, .int 1]) (rest := []) ⟨hx, hb, hml, hown, hts⟩ (c_X5_home1 l dd ga n k ar (s_tb (s_wr σ f t w9) 0 t (q_max (σ.1 0 t) x9.2.2 + 1)) hsq hL t f ht hf x9.2.1 hcap2) (cwV 4 hts gX5_deliver_X5_home rfl rfl rfl (by decide +kernel) ⟨Nat.le_of_ble_eq_true rfl, Nat.le_of_ble_eq_true rfl⟩) (qpreV hK (⟨ρ, hRp, hW⟩) hW.self rfl) rfl rfl hl.1 rfl (lv_room (Nat.le_of_ble_eq_true rfl)) dX5_deliver_240 ⟨Nat.zero_le _, Nat.zero_le _⟩) hS (fun q h => h) (fun H locs hp9 hz9 ho9 hS => ?_)
              have hfin : qR dd ga n k ar (q_deliver n σ f t).2 H := by rw [hdel]; simp only [q_do, if_neg c_198, if_neg (show ¬ x9.1 = 2 by rw [c_232]; decide), if_neg (show ¬ x9.1 = 3 by rw [c_232]; decide), if_neg (show ¬ x9.1 = 4 by rw [c_232]; decide), if_pos c_232]; exact hp9
              refine lv_goto (tgt := 256) hx hb dX5_deliver_243 (by decide) ?_
              refine lv_iload hx hb dX5_deliver_256 (lv_at hl 6 rfl) ?_
              exact q_iret hx hb hr hlocks hS (⟨by rw [hdel], hfin⟩) dX5_deliver_258
        · refine lv_aload_n hx hb dX5_deliver_201 rfl (lv_at hl 1 rfl) ?_
          refine lv_iload_n hx hb dX5_deliver_202 rfl (lv_at hl 3 rfl) ?_
          refine lv_iload_n hx hb dX5_deliver_203 rfl (lv_at hl 2 rfl) ?_
          refine lv_iload hx hb dX5_deliver_204 (lv_at hl 7 rfl) ?_
          refine qc_v (va_runV (As := [.int (nI t), .int (nI f), .int x9.2.1]) (rest := []) ⟨hx, hb, hml, hown, hts⟩ (c_X5_asked l dd ga n k ar (s_tb (s_wr σ f t w9) 0 t (q_max (σ.1 0 t) x9.2.2 + 1)) hsq hL t f ht hf x9.2.1 hcap2) (cwV 3 hts gX5_deliver_X5_asked rfl rfl rfl (by decide +kernel) ⟨Nat.le_of_ble_eq_true rfl, Nat.le_of_ble_eq_true rfl⟩) (qpreV hK (⟨ρ, hRp, hW⟩) hW.self rfl) rfl rfl hl.1 rfl (lv_room (Nat.le_of_ble_eq_true rfl)) dX5_deliver_206 ⟨Nat.zero_le _, Nat.zero_le _⟩) hS (fun q h => h) (fun H locs hp9 hz9 ho9 hS => ?_)
          have hfin : qR dd ga n k ar (q_deliver n σ f t).2 H := by rw [hdel]; simp only [q_do, if_pos c_198]; exact hp9
          refine lv_goto (tgt := 256) hx hb dX5_deliver_209 (by decide) ?_
          refine lv_iload hx hb dX5_deliver_256 (lv_at hl 6 rfl) ?_
          exact q_iret hx hb hr hlocks hS (⟨by rw [hdel], hfin⟩) dX5_deliver_258
      · refine lv_iload hx hb dX5_deliver_181 (lv_at hl 8 rfl) ?_
        refine lv_goto (tgt := 192) hx hb dX5_deliver_183 (by decide) ?_
        refine lv_iconst (v := 1) hx hb dX5_deliver_192 (by decide) ?_
        refine lv_iadd hx hb dX5_deliver_193 ?_
        refine q_ti (y := q_max (σ.1 0 t) x9.2.2 + 1) (by rw [q_maxR, if_neg c_178]) ?_
        refine qr_iast hx hb hK hW.a1 hS (⟨1, by decide, rfl⟩) t (by omega) (by omega) rfl dX5_deliver_194 (fun H locs hz9 ho9 hat9 hS => ?_)
        have hW := hW.put hL 1 t (q_max (σ.1 0 t) x9.2.2 + 1) (by decide) (by decide) ho9 hat9
        obtain ⟨ρ, hRp, hW⟩ : ∃ ρ9, qRp n (s_tb (s_wr σ f t w9) 0 t (q_max (σ.1 0 t) x9.2.2 + 1)) ρ9 ∧ qR0 dd ga n k ar ρ9 σ.2.2.2.2 H := ⟨_, hRp.stb 0 t (q_max (σ.1 0 t) x9.2.2 + 1) (by decide), hW⟩
        have hcap2 : qCap n k (s_tb (s_wr σ f t w9) 0 t (q_max (σ.1 0 t) x9.2.2 + 1)) := hcap.pop hw9 (q_max (σ.1 0 t) x9.2.2 + 1)
        have hdel : q_deliver n σ f t = (x9.1, q_do n (s_tb (s_wr σ f t w9) 0 t (q_max (σ.1 0 t) x9.2.2 + 1)) t f x9.1 x9.2.1) := q_deliver_cons hw9
        refine lv_iload hx hb dX5_deliver_195 (lv_at hl 6 rfl) ?_
        refine lv_iconst (v := 1) hx hb dX5_deliver_197 (by decide) ?_
        refine lv_icmp_ne (tgt := 212) hx hb dX5_deliver_198 (by decide) (fun c_198 => ?_) (fun c_198 => ?_)
        · refine lv_iload hx hb dX5_deliver_212 (lv_at hl 6 rfl) ?_
          refine lv_iconst (v := 3) hx hb dX5_deliver_214 (by decide) ?_
          refine lv_icmp_eq (tgt := 224) hx hb dX5_deliver_215 (by decide) (fun c_215 => ?_) (fun c_215 => ?_)
          · refine lv_aload_n hx hb dX5_deliver_224 rfl (lv_at hl 1 rfl) ?_
            refine lv_iload_n hx hb dX5_deliver_225 rfl (lv_at hl 3 rfl) ?_
            refine lv_iload_n hx hb dX5_deliver_226 rfl (lv_at hl 2 rfl) ?_
            refine lv_iload hx hb dX5_deliver_227 (lv_at hl 7 rfl) ?_
            refine lv_iload hx hb dX5_deliver_229 (lv_at hl 6 rfl) ?_
            refine lv_iconst (v := 5) hx hb dX5_deliver_231 (by decide) ?_
            have hk3 : x9.1 = 3 := c_215
            refine lv_icmp_ne (tgt := 239) hx hb dX5_deliver_232 (by decide) (fun c_232 => ?_) (fun c_232 => absurd (c_215.symm.trans c_232) (by decide))
            refine lv_iconst (v := 0) hx hb dX5_deliver_239 (by decide) ?_
            refine qc_v (va_runV (As := [.int (nI t), .int (nI f), .int x9.2.1, .int 0]) (rest := []) ⟨hx, hb, hml, hown, hts⟩ (c_X5_home0 l dd ga n k ar (s_tb (s_wr σ f t w9) 0 t (q_max (σ.1 0 t) x9.2.2 + 1)) hsq hL t f ht hf x9.2.1 hcap2) (cwV 4 hts gX5_deliver_X5_home rfl rfl rfl (by decide +kernel) ⟨Nat.le_of_ble_eq_true rfl, Nat.le_of_ble_eq_true rfl⟩) (qpreV hK (⟨ρ, hRp, hW⟩) hW.self rfl) rfl rfl hl.1 rfl (lv_room (Nat.le_of_ble_eq_true rfl)) dX5_deliver_240 ⟨Nat.zero_le _, Nat.zero_le _⟩) hS (fun q h => h) (fun H locs hp9 hz9 ho9 hS => ?_)
            have hfin : qR dd ga n k ar (q_deliver n σ f t).2 H := by rw [hdel]; simp only [q_do, if_neg c_198, if_neg (show ¬ x9.1 = 2 by rw [hk3]; decide), if_pos hk3]; exact hp9
            refine lv_goto (tgt := 256) hx hb dX5_deliver_243 (by decide) ?_
            refine lv_iload hx hb dX5_deliver_256 (lv_at hl 6 rfl) ?_
            exact q_iret hx hb hr hlocks hS (⟨by rw [hdel], hfin⟩) dX5_deliver_258
          · refine lv_iload hx hb dX5_deliver_218 (lv_at hl 6 rfl) ?_
            refine lv_iconst (v := 5) hx hb dX5_deliver_220 (by decide) ?_
            refine lv_icmp_ne (tgt := 246) hx hb dX5_deliver_221 (by decide) (fun c_221 => ?_) (fun c_221 => ?_)
            · refine lv_aload_n hx hb dX5_deliver_246 rfl (lv_at hl 1 rfl) ?_
              refine lv_iload_n hx hb dX5_deliver_247 rfl (lv_at hl 3 rfl) ?_
              refine lv_iload_n hx hb dX5_deliver_248 rfl (lv_at hl 2 rfl) ?_
              refine lv_iload hx hb dX5_deliver_249 (lv_at hl 6 rfl) ?_
              refine lv_iload hx hb dX5_deliver_251 (lv_at hl 7 rfl) ?_
              refine qc_v (va_runV (As := [.int (nI t), .int (nI f), .int x9.1, .int x9.2.1]) (rest := []) ⟨hx, hb, hml, hown, hts⟩ (c_X5_answer l dd ga n k ar (s_tb (s_wr σ f t w9) 0 t (q_max (σ.1 0 t) x9.2.2 + 1)) hsq hL t f ht hf x9.1 x9.2.1 c_198 c_215 c_221 (by rcases hk9 with h | h | h | h | h | h <;> first | exact absurd h c_198 | exact absurd h c_215 | exact absurd h c_221 | simp [h]) (fun t9 h9 => hcap2.1 t t9 ht h9)) (cwV 4 hts gX5_deliver_X5_answer rfl rfl rfl (by decide +kernel) ⟨Nat.le_of_ble_eq_true rfl, Nat.le_of_ble_eq_true rfl⟩) (qpreV hK (⟨ρ, hRp, hW⟩) hW.self rfl) rfl rfl hl.1 rfl (lv_room (Nat.le_of_ble_eq_true rfl)) dX5_deliver_253 ⟨Nat.zero_le _, Nat.zero_le _⟩) hS (fun q h => h) (fun H locs hp9 hz9 ho9 hS => ?_)
              have hfin : qR dd ga n k ar (q_deliver n σ f t).2 H := by rw [hdel]; exact hp9
              refine lv_iload hx hb dX5_deliver_256 (lv_at hl 6 rfl) ?_
              exact q_iret hx hb hr hlocks hS (⟨by rw [hdel], hfin⟩) dX5_deliver_258
            · refine lv_aload_n hx hb dX5_deliver_224 rfl (lv_at hl 1 rfl) ?_
              refine lv_iload_n hx hb dX5_deliver_225 rfl (lv_at hl 3 rfl) ?_
              refine lv_iload_n hx hb dX5_deliver_226 rfl (lv_at hl 2 rfl) ?_
              refine lv_iload hx hb dX5_deliver_227 (lv_at hl 7 rfl) ?_
              refine lv_iload hx hb dX5_deliver_229 (lv_at hl 6 rfl) ?_
              refine lv_iconst (v := 5) hx hb dX5_deliver_231 (by decide) ?_
              refine lv_icmp_ne (tgt := 239) hx hb dX5_deliver_232 (by decide) (fun c_232 => absurd c_221 c_232) (fun c_232 => ?_)
              refine lv_iconst (v := 1) hx hb dX5_deliver_235 (by decide) ?_
              refine lv_goto (tgt := 240) hx hb dX5_deliver_236 (by decide) ?_
              refine qc_v (va_runV (As := [.int (nI t), .int (nI f), .int x9.2.1, .int 1]) (rest := []) ⟨hx, hb, hml, hown, hts⟩ (c_X5_home1 l dd ga n k ar (s_tb (s_wr σ f t w9) 0 t (q_max (σ.1 0 t) x9.2.2 + 1)) hsq hL t f ht hf x9.2.1 hcap2) (cwV 4 hts gX5_deliver_X5_home rfl rfl rfl (by decide +kernel) ⟨Nat.le_of_ble_eq_true rfl, Nat.le_of_ble_eq_true rfl⟩) (qpreV hK (⟨ρ, hRp, hW⟩) hW.self rfl) rfl rfl hl.1 rfl (lv_room (Nat.le_of_ble_eq_true rfl)) dX5_deliver_240 ⟨Nat.zero_le _, Nat.zero_le _⟩) hS (fun q h => h) (fun H locs hp9 hz9 ho9 hS => ?_)
              have hfin : qR dd ga n k ar (q_deliver n σ f t).2 H := by rw [hdel]; simp only [q_do, if_neg c_198, if_neg (show ¬ x9.1 = 2 by rw [c_232]; decide), if_neg (show ¬ x9.1 = 3 by rw [c_232]; decide), if_neg (show ¬ x9.1 = 4 by rw [c_232]; decide), if_pos c_232]; exact hp9
              refine lv_goto (tgt := 256) hx hb dX5_deliver_243 (by decide) ?_
              refine lv_iload hx hb dX5_deliver_256 (lv_at hl 6 rfl) ?_
              exact q_iret hx hb hr hlocks hS (⟨by rw [hdel], hfin⟩) dX5_deliver_258
        · refine lv_aload_n hx hb dX5_deliver_201 rfl (lv_at hl 1 rfl) ?_
          refine lv_iload_n hx hb dX5_deliver_202 rfl (lv_at hl 3 rfl) ?_
          refine lv_iload_n hx hb dX5_deliver_203 rfl (lv_at hl 2 rfl) ?_
          refine lv_iload hx hb dX5_deliver_204 (lv_at hl 7 rfl) ?_
          refine qc_v (va_runV (As := [.int (nI t), .int (nI f), .int x9.2.1]) (rest := []) ⟨hx, hb, hml, hown, hts⟩ (c_X5_asked l dd ga n k ar (s_tb (s_wr σ f t w9) 0 t (q_max (σ.1 0 t) x9.2.2 + 1)) hsq hL t f ht hf x9.2.1 hcap2) (cwV 3 hts gX5_deliver_X5_asked rfl rfl rfl (by decide +kernel) ⟨Nat.le_of_ble_eq_true rfl, Nat.le_of_ble_eq_true rfl⟩) (qpreV hK (⟨ρ, hRp, hW⟩) hW.self rfl) rfl rfl hl.1 rfl (lv_room (Nat.le_of_ble_eq_true rfl)) dX5_deliver_206 ⟨Nat.zero_le _, Nat.zero_le _⟩) hS (fun q h => h) (fun H locs hp9 hz9 ho9 hS => ?_)
          have hfin : qR dd ga n k ar (q_deliver n σ f t).2 H := by rw [hdel]; simp only [q_do, if_pos c_198]; exact hp9
          refine lv_goto (tgt := 256) hx hb dX5_deliver_209 (by decide) ?_
          refine lv_iload hx hb dX5_deliver_256 (lv_at hl 6 rfl) ?_
          exact q_iret hx hb hr hlocks hS (⟨by rw [hdel], hfin⟩) dX5_deliver_258
    have hloop : ∀ (c9 p9 : Nat) (ρ9 : Nat → Nat → Int32) (H : Heap) (locs : List Loc) (ls : Array Slot), p9 + c9 = w9.length → (∀ b j : Nat, b ≠ 13 → b ≠ 14 → b ≠ 15 → b ≠ 16 → ρ9 b j = ρ b j) → (∀ j : Nat, j ≠ 16 * f + t → ρ9 13 j = ρ 13 j) → ρ9 13 (16 * f + t) = nI w9.length → (∀ b j : Nat, 14 ≤ b → b ≤ 16 → ¬ (64 * (16 * f + t) ≤ j ∧ j < 64 * (16 * f + t) + 64) → ρ9 b j = ρ b j) → (∀ b j : Nat, 14 ≤ b → b ≤ 16 → j < p9 → ρ9 b (64 * (16 * f + t) + j) = ρ b (64 * (16 * f + t) + (j + 1))) → (∀ b j : Nat, 14 ≤ b → b ≤ 16 → p9 ≤ j → ρ9 b (64 * (16 * f + t) + j) = ρ b (64 * (16 * f + t) + j)) → qR0 dd ga n k ar ρ9 σ.2.2.2.2 H → qS (qAr ar) s.heap H locs → lv_has ls 9 [(8, .int (nI p9)), (0, .ref (ar 0)), (1, .int (nI f)), (2, .int (nI t)), (3, .int (nI (16 * f + t))), (4, .int (nI (64 * (16 * f + t)))), (5, .int x9.1), (6, .int x9.2.1), (7, .int x9.2.2)] → W p l e (headSpec wsX5_deliver ({ frames := 3, cells := 0, slots := 0, locals := 76 })).room s m (([.ref (ar 0), .int (nI f), .int (nI t)] : List Value).toArray) below meth c H locs 0 0 (MQ below (qQi (fun v H => v = (q_deliver n σ f t).1 ∧ qR dd ga n k ar (q_deliver n σ f t).2 H) (qAr ar)) (([.ref (ar 0), .int (nI f), .int (nI t)] : List Value).toArray) s 0 0 (qAr ar)) (F0 m 82 ls []) := by
      intro c9
      induction c9 with
      | zero =>
        intro p9 ρ9 H locs ls hc h0 h1 h13 h2 h3 h4 hW hS hl
        refine lv_iload hx hb dX5_deliver_82 (lv_at hl 0 rfl) ?_
        refine lv_aload_n hx hb dX5_deliver_84 rfl (lv_at hl 1 rfl) ?_
        refine qr_get (ci := 5) (C := RX5) (T := TX5) (N := 19) hx hb hts hin5 hown hK hW.self rfl 14 (by decide) (hts (.fieldLink RX5 47 "QuorumLockModel" "lying" "[I") (by decide +kernel)) rfl dX5_deliver_85 ?_
        refine lv_iload_n hx hb dX5_deliver_88 rfl (lv_at hl 4 rfl) ?_
        refine qr_iald (v := (nI w9.length)) hx hb hK hW.a13 (16 * f + t) (by omega) (by omega) rfl h13 dX5_deliver_89 ?_
        refine lv_icmp_ge (tgt := 165) hx hb dX5_deliver_90 (by decide) (fun c_90 => ?_) (fun c_90 => absurd (nI_le (show w9.length ≤ p9 by omega) (by omega)) c_90)
        exact hdone ρ9 _ _ ls p9 (hRp.pop (by omega) (by omega) hw9 ⟨hf, ht⟩ h0 h1 h13 h2 (fun b j g1 g2 g3 => h3 b j g1 g2 (by omega))) hW hS (lv_sub hl [0, 1, 2, 3, 4, 5, 6, 7, 8] rfl)
      | succ c9 ih =>
        intro p9 ρ9 H locs ls hc h0 h1 h13 h2 h3 h4 hW hS hl
        refine lv_iload hx hb dX5_deliver_82 (lv_at hl 0 rfl) ?_
        refine lv_aload_n hx hb dX5_deliver_84 rfl (lv_at hl 1 rfl) ?_
        refine qr_get (ci := 5) (C := RX5) (T := TX5) (N := 19) hx hb hts hin5 hown hK hW.self rfl 14 (by decide) (hts (.fieldLink RX5 47 "QuorumLockModel" "lying" "[I") (by decide +kernel)) rfl dX5_deliver_85 ?_
        refine lv_iload_n hx hb dX5_deliver_88 rfl (lv_at hl 4 rfl) ?_
        refine qr_iald (v := (nI w9.length)) hx hb hK hW.a13 (16 * f + t) (by omega) (by omega) rfl h13 dX5_deliver_89 ?_
        refine lv_icmp_ge (tgt := 165) hx hb dX5_deliver_90 (by decide) (fun c_90 => absurd c_90 (nI_ge (by omega) (by omega))) (fun c_90 => ?_)
        refine lv_aload_n hx hb dX5_deliver_93 rfl (lv_at hl 1 rfl) ?_
        refine qr_get (ci := 5) (C := RX5) (T := TX5) (N := 19) hx hb hts hin5 hown hK hW.self rfl 15 (by decide) (hts (.fieldLink RX5 50 "QuorumLockModel" "kinds" "[I") (by decide +kernel)) rfl dX5_deliver_94 ?_
        refine lv_iload hx hb dX5_deliver_97 (lv_at hl 5 rfl) ?_
        refine lv_iload hx hb dX5_deliver_99 (lv_at hl 0 rfl) ?_
        refine lv_iadd hx hb dX5_deliver_101 ?_
        refine q_ti (y := nI (64 * (16 * f + t) + p9)) (nI_add _ _) ?_
        refine lv_aload_n hx hb dX5_deliver_102 rfl (lv_at hl 1 rfl) ?_
        refine qr_get (ci := 5) (C := RX5) (T := TX5) (N := 19) hx hb hts hin5 hown hK hW.self rfl 15 (by decide) (hts (.fieldLink RX5 50 "QuorumLockModel" "kinds" "[I") (by decide +kernel)) rfl dX5_deliver_103 ?_
        refine lv_iload hx hb dX5_deliver_106 (lv_at hl 5 rfl) ?_
        refine lv_iload hx hb dX5_deliver_108 (lv_at hl 0 rfl) ?_
        refine lv_iadd hx hb dX5_deliver_110 ?_
        refine q_ti (y := nI (64 * (16 * f + t) + p9)) (nI_add _ _) ?_
        refine lv_iconst (v := 1) hx hb dX5_deliver_111 (by decide) ?_
        refine lv_iadd hx hb dX5_deliver_112 ?_
        refine q_ti (y := nI (64 * (16 * f + t) + p9 + 1)) (nI_1 _) ?_
        refine qr_iald (v := (ρ 14 (64 * (16 * f + t) + p9 + 1))) hx hb hK hW.a14 (64 * (16 * f + t) + p9 + 1) (by omega) (by omega) rfl (h4 14 (p9 + 1) (by decide) (by decide) (by omega)) dX5_deliver_113 ?_
        refine qr_iast hx hb hK hW.a14 hS (⟨14, by decide, rfl⟩) (64 * (16 * f + t) + p9) (by omega) (by omega) rfl dX5_deliver_114 (fun H locs hz9 ho9 hat9 hS => ?_)
        have hW := hW.put hL 14 (64 * (16 * f + t) + p9) (ρ 14 (64 * (16 * f + t) + p9 + 1)) (by decide) (by decide) ho9 hat9
        refine lv_aload_n hx hb dX5_deliver_115 rfl (lv_at hl 1 rfl) ?_
        refine qr_get (ci := 5) (C := RX5) (T := TX5) (N := 19) hx hb hts hin5 hown hK hW.self rfl 16 (by decide) (hts (.fieldLink RX5 53 "QuorumLockModel" "times" "[I") (by decide +kernel)) rfl dX5_deliver_116 ?_
        refine lv_iload hx hb dX5_deliver_119 (lv_at hl 5 rfl) ?_
        refine lv_iload hx hb dX5_deliver_121 (lv_at hl 0 rfl) ?_
        refine lv_iadd hx hb dX5_deliver_123 ?_
        refine q_ti (y := nI (64 * (16 * f + t) + p9)) (nI_add _ _) ?_
        refine lv_aload_n hx hb dX5_deliver_124 rfl (lv_at hl 1 rfl) ?_
        refine qr_get (ci := 5) (C := RX5) (T := TX5) (N := 19) hx hb hts hin5 hown hK hW.self rfl 16 (by decide) (hts (.fieldLink RX5 53 "QuorumLockModel" "times" "[I") (by decide +kernel)) rfl dX5_deliver_125 ?_
        refine lv_iload hx hb dX5_deliver_128 (lv_at hl 5 rfl) ?_
        refine lv_iload hx hb dX5_deliver_130 (lv_at hl 0 rfl) ?_
        refine lv_iadd hx hb dX5_deliver_132 ?_
        refine q_ti (y := nI (64 * (16 * f + t) + p9)) (nI_add _ _) ?_
        refine lv_iconst (v := 1) hx hb dX5_deliver_133 (by decide) ?_
        refine lv_iadd hx hb dX5_deliver_134 ?_
        refine q_ti (y := nI (64 * (16 * f + t) + p9 + 1)) (nI_1 _) ?_
        refine qr_iald (v := (ρ 15 (64 * (16 * f + t) + p9 + 1))) hx hb hK hW.a15 (64 * (16 * f + t) + p9 + 1) (by omega) (by omega) rfl (by simp [q2]; exact h4 15 (p9 + 1) (by decide) (by decide) (by omega)) dX5_deliver_135 ?_
        refine qr_iast hx hb hK hW.a15 hS (⟨15, by decide, rfl⟩) (64 * (16 * f + t) + p9) (by omega) (by omega) rfl dX5_deliver_136 (fun H locs hz9 ho9 hat9 hS => ?_)
        have hW := hW.put hL 15 (64 * (16 * f + t) + p9) (ρ 15 (64 * (16 * f + t) + p9 + 1)) (by decide) (by decide) ho9 hat9
        refine lv_aload_n hx hb dX5_deliver_137 rfl (lv_at hl 1 rfl) ?_
        refine qr_get (ci := 5) (C := RX5) (T := TX5) (N := 19) hx hb hts hin5 hown hK hW.self rfl 17 (by decide) (hts (.fieldLink RX5 56 "QuorumLockModel" "clocks" "[I") (by decide +kernel)) rfl dX5_deliver_138 ?_
        refine lv_iload hx hb dX5_deliver_141 (lv_at hl 5 rfl) ?_
        refine lv_iload hx hb dX5_deliver_143 (lv_at hl 0 rfl) ?_
        refine lv_iadd hx hb dX5_deliver_145 ?_
        refine q_ti (y := nI (64 * (16 * f + t) + p9)) (nI_add _ _) ?_
        refine lv_aload_n hx hb dX5_deliver_146 rfl (lv_at hl 1 rfl) ?_
        refine qr_get (ci := 5) (C := RX5) (T := TX5) (N := 19) hx hb hts hin5 hown hK hW.self rfl 17 (by decide) (hts (.fieldLink RX5 56 "QuorumLockModel" "clocks" "[I") (by decide +kernel)) rfl dX5_deliver_147 ?_
        refine lv_iload hx hb dX5_deliver_150 (lv_at hl 5 rfl) ?_
        refine lv_iload hx hb dX5_deliver_152 (lv_at hl 0 rfl) ?_
        refine lv_iadd hx hb dX5_deliver_154 ?_
        refine q_ti (y := nI (64 * (16 * f + t) + p9)) (nI_add _ _) ?_
        refine lv_iconst (v := 1) hx hb dX5_deliver_155 (by decide) ?_
        refine lv_iadd hx hb dX5_deliver_156 ?_
        refine q_ti (y := nI (64 * (16 * f + t) + p9 + 1)) (nI_1 _) ?_
        refine qr_iald (v := (ρ 16 (64 * (16 * f + t) + p9 + 1))) hx hb hK hW.a16 (64 * (16 * f + t) + p9 + 1) (by omega) (by omega) rfl (by simp [q2]; exact h4 16 (p9 + 1) (by decide) (by decide) (by omega)) dX5_deliver_157 ?_
        refine qr_iast hx hb hK hW.a16 hS (⟨16, by decide, rfl⟩) (64 * (16 * f + t) + p9) (by omega) (by omega) rfl dX5_deliver_158 (fun H locs hz9 ho9 hat9 hS => ?_)
        have hW := hW.put hL 16 (64 * (16 * f + t) + p9) (ρ 16 (64 * (16 * f + t) + p9 + 1)) (by decide) (by decide) ho9 hat9
        refine lv_iinc (v := nI (p9 + 1)) (lv' := [(8, .int (nI (p9 + 1))), (0, .ref (ar 0)), (1, .int (nI f)), (2, .int (nI t)), (3, .int (nI (16 * f + t))), (4, .int (nI (64 * (16 * f + t)))), (5, .int x9.1), (6, .int x9.2.1), (7, .int x9.2.2)]) hx hb dX5_deliver_159 hl (k := 0) rfl (nI_1 _) (by decide) rfl (fun ls hl => ?_)
        refine lv_goto (tgt := 82) hx hb dX5_deliver_162 (by decide) ?_
        refine ih (p9 + 1) _ _ _ ls (by omega) (fun b j g1 g2 g3 g4 => ?_) (fun j g1 => ?_) ?_ (fun b j g1 g2 g3 => ?_) (fun b j g1 g2 hj => ?_) (fun b j g1 g2 hj => ?_) hW hS (lv_sub hl [0, 1, 2, 3, 4, 5, 6, 7, 8] rfl)
        · rw [q2_n (by omega), q2_n (by omega), q2_n (by omega)]; exact h0 b j g1 g2 g3 g4
        · rw [q2_n (by omega), q2_n (by omega), q2_n (by omega)]; exact h1 j g1
        · rw [q2_n (by omega), q2_n (by omega), q2_n (by omega)]; exact h13
        · rw [q2_n (by omega), q2_n (by omega), q2_n (by omega)]; exact h2 b j g1 g2 g3
        · rcases Nat.lt_or_ge j p9 with h | h
          · rw [q2_n (by omega), q2_n (by omega), q2_n (by omega)]; exact h3 b j g1 g2 h
          · have : j = p9 := by omega
            subst this
            rcases (show b = 14 ∨ b = 15 ∨ b = 16 by omega) with h5 | h5 | h5 <;> subst h5 <;> simp [q2] <;> rfl
        · rw [q2_n (by omega), q2_n (by omega), q2_n (by omega)]; exact h4 b j g1 g2 (by omega)
    refine lv_aload_n hx hb dX5_deliver_0 rfl (lv_at hl 0 rfl) ?_
    refine lv_iload_n hx hb dX5_deliver_1 rfl (lv_at hl 1 rfl) ?_
    refine qc_i (va_runV (As := [.int (nI f)]) (rest := []) ⟨hx, hb, hml, hown, hts⟩ (c_X5_isNode l dd ga n k ar σ hsq hL (nI f)) (cwV 1 hts gX5_deliver_X5_isNode rfl rfl rfl (by decide +kernel) ⟨Nat.le_of_ble_eq_true rfl, Nat.le_of_ble_eq_true rfl⟩) (qpreV hK (⟨ρ, hRp, hW⟩) hW.self rfl) rfl rfl hl.1 rfl (lv_room (Nat.le_of_ble_eq_true rfl)) dX5_deliver_2 ⟨Nat.zero_le _, Nat.zero_le _⟩) hS (fun q h => h.elim) (fun v2 H locs hp9 hz9 ho9 hS => ?_)
    have ev2 : v2 = _ := hp9
    have hW := hW.same (fun q => ho9 q (fun h => h))
    refine lv_if_eq (tgt := 16) hx hb dX5_deliver_5 (by decide) (fun c_5 => absurd c_5 (by rw [ev2, if_pos (q_nodeY hn16 hf)]; decide)) (fun c_5 => ?_)
    refine lv_aload_n hx hb dX5_deliver_8 rfl (lv_at hl 0 rfl) ?_
    refine lv_iload_n hx hb dX5_deliver_9 rfl (lv_at hl 2 rfl) ?_
    refine qc_i (va_runV (As := [.int (nI t)]) (rest := []) ⟨hx, hb, hml, hown, hts⟩ (c_X5_isNode l dd ga n k ar σ hsq hL (nI t)) (cwV 1 hts gX5_deliver_X5_isNode rfl rfl rfl (by decide +kernel) ⟨Nat.le_of_ble_eq_true rfl, Nat.le_of_ble_eq_true rfl⟩) (qpreV hK (⟨ρ, hRp, hW⟩) hW.self rfl) rfl rfl hl.1 rfl (lv_room (Nat.le_of_ble_eq_true rfl)) dX5_deliver_10 ⟨Nat.zero_le _, Nat.zero_le _⟩) hS (fun q h => h.elim) (fun v10 H locs hp9 hz9 ho9 hS => ?_)
    have ev10 : v10 = _ := hp9
    have hW := hW.same (fun q => ho9 q (fun h => h))
    refine lv_if_ne (tgt := 18) hx hb dX5_deliver_13 (by decide) (fun c_13 => ?_) (fun c_13 => absurd c_13 (by rw [ev10, if_pos (q_nodeY hn16 ht)]; decide))
    refine lv_bipush (v := nI 16) hx hb dX5_deliver_18 (by decide) ?_
    refine lv_iload_n hx hb dX5_deliver_20 rfl (lv_at hl 1 rfl) ?_
    refine lv_imul hx hb dX5_deliver_21 ?_
    refine q_ti (y := nI (16 * f)) (pk_mul _ _) ?_
    refine lv_iload_n hx hb dX5_deliver_22 rfl (lv_at hl 2 rfl) ?_
    refine lv_iadd hx hb dX5_deliver_23 ?_
    refine q_ti (y := nI (16 * f + t)) (nI_add _ _) ?_
    refine lv_istore_n (lv' := [(3, .int (nI (16 * f + t))), (0, .ref (ar 0)), (1, .int (nI f)), (2, .int (nI t))]) hx hb dX5_deliver_24 rfl hl (by decide) rfl (fun ls hl => ?_)
    refine lv_aload_n hx hb dX5_deliver_25 rfl (lv_at hl 1 rfl) ?_
    refine qr_get (ci := 5) (C := RX5) (T := TX5) (N := 19) hx hb hts hin5 hown hK hW.self rfl 14 (by decide) (hts (.fieldLink RX5 47 "QuorumLockModel" "lying" "[I") (by decide +kernel)) rfl dX5_deliver_26 ?_
    refine lv_iload_n hx hb dX5_deliver_29 rfl (lv_at hl 0 rfl) ?_
    refine qr_iald (v := (nI (w9.length + 1))) hx hb hK hW.a13 (16 * f + t) (by omega) (by omega) rfl hwb.1 dX5_deliver_30 ?_
    refine lv_if_ne (tgt := 36) hx hb dX5_deliver_31 (by decide) (fun c_31 => ?_) (fun c_31 => absurd c_31 (nI_ne0 (by omega) (by omega)))
    refine lv_bipush (v := nI 64) hx hb dX5_deliver_36 (by decide) ?_
    refine lv_iload_n hx hb dX5_deliver_38 rfl (lv_at hl 0 rfl) ?_
    refine lv_imul hx hb dX5_deliver_39 ?_
    refine q_ti (y := nI (64 * (16 * f + t))) (pk_mul _ _) ?_
    refine lv_istore (lv' := [(4, .int (nI (64 * (16 * f + t)))), (3, .int (nI (16 * f + t))), (0, .ref (ar 0)), (1, .int (nI f)), (2, .int (nI t))]) hx hb dX5_deliver_40 hl (by decide) rfl (fun ls hl => ?_)
    refine lv_aload_n hx hb dX5_deliver_42 rfl (lv_at hl 2 rfl) ?_
    refine qr_get (ci := 5) (C := RX5) (T := TX5) (N := 19) hx hb hts hin5 hown hK hW.self rfl 15 (by decide) (hts (.fieldLink RX5 50 "QuorumLockModel" "kinds" "[I") (by decide +kernel)) rfl dX5_deliver_43 ?_
    refine lv_iload hx hb dX5_deliver_46 (lv_at hl 0 rfl) ?_
    refine qr_iald (v := x9.1) hx hb hK hW.a14 (64 * (16 * f + t)) (by omega) (by omega) rfl hx0.1 dX5_deliver_48 ?_
    refine lv_istore (lv' := [(5, .int x9.1), (4, .int (nI (64 * (16 * f + t)))), (3, .int (nI (16 * f + t))), (0, .ref (ar 0)), (1, .int (nI f)), (2, .int (nI t))]) hx hb dX5_deliver_49 hl (by decide) rfl (fun ls hl => ?_)
    refine lv_aload_n hx hb dX5_deliver_51 rfl (lv_at hl 3 rfl) ?_
    refine qr_get (ci := 5) (C := RX5) (T := TX5) (N := 19) hx hb hts hin5 hown hK hW.self rfl 16 (by decide) (hts (.fieldLink RX5 53 "QuorumLockModel" "times" "[I") (by decide +kernel)) rfl dX5_deliver_52 ?_
    refine lv_iload hx hb dX5_deliver_55 (lv_at hl 1 rfl) ?_
    refine qr_iald (v := x9.2.1) hx hb hK hW.a15 (64 * (16 * f + t)) (by omega) (by omega) rfl hx0.2.1 dX5_deliver_57 ?_
    refine lv_istore (lv' := [(6, .int x9.2.1), (5, .int x9.1), (4, .int (nI (64 * (16 * f + t)))), (3, .int (nI (16 * f + t))), (0, .ref (ar 0)), (1, .int (nI f)), (2, .int (nI t))]) hx hb dX5_deliver_58 hl (by decide) rfl (fun ls hl => ?_)
    refine lv_aload_n hx hb dX5_deliver_60 rfl (lv_at hl 4 rfl) ?_
    refine qr_get (ci := 5) (C := RX5) (T := TX5) (N := 19) hx hb hts hin5 hown hK hW.self rfl 17 (by decide) (hts (.fieldLink RX5 56 "QuorumLockModel" "clocks" "[I") (by decide +kernel)) rfl dX5_deliver_61 ?_
    refine lv_iload hx hb dX5_deliver_64 (lv_at hl 2 rfl) ?_
    refine qr_iald (v := x9.2.2) hx hb hK hW.a16 (64 * (16 * f + t)) (by omega) (by omega) rfl hx0.2.2 dX5_deliver_66 ?_
    refine lv_istore (lv' := [(7, .int x9.2.2), (6, .int x9.2.1), (5, .int x9.1), (4, .int (nI (64 * (16 * f + t)))), (3, .int (nI (16 * f + t))), (0, .ref (ar 0)), (1, .int (nI f)), (2, .int (nI t))]) hx hb dX5_deliver_67 hl (by decide) rfl (fun ls hl => ?_)
    refine lv_aload_n hx hb dX5_deliver_69 rfl (lv_at hl 5 rfl) ?_
    refine qr_get (ci := 5) (C := RX5) (T := TX5) (N := 19) hx hb hts hin5 hown hK hW.self rfl 14 (by decide) (hts (.fieldLink RX5 47 "QuorumLockModel" "lying" "[I") (by decide +kernel)) rfl dX5_deliver_70 ?_
    refine lv_iload_n hx hb dX5_deliver_73 rfl (lv_at hl 4 rfl) ?_
    refine lv_dup2_11 hx hb dX5_deliver_74 rfl rfl ?_
    refine qr_iald (v := (nI (w9.length + 1))) hx hb hK hW.a13 (16 * f + t) (by omega) (by omega) rfl hwb.1 dX5_deliver_75 ?_
    refine lv_iconst (v := 1) hx hb dX5_deliver_76 (by decide) ?_
    refine lv_isub hx hb dX5_deliver_77 ?_
    refine q_ti (y := nI w9.length) (nI_pred _) ?_
    refine qr_iast hx hb hK hW.a13 hS (⟨13, by decide, rfl⟩) (16 * f + t) (by omega) (by omega) rfl dX5_deliver_78 (fun H locs hz9 ho9 hat9 hS => ?_)
    have hW := hW.put hL 13 (16 * f + t) (nI w9.length) (by decide) (by decide) ho9 hat9
    refine lv_iconst (v := nI 0) hx hb dX5_deliver_79 (by decide) ?_
    refine lv_istore (lv' := [(8, .int (nI 0)), (7, .int x9.2.2), (6, .int x9.2.1), (5, .int x9.1), (4, .int (nI (64 * (16 * f + t)))), (3, .int (nI (16 * f + t))), (0, .ref (ar 0)), (1, .int (nI f)), (2, .int (nI t))]) hx hb dX5_deliver_80 hl (by decide) rfl (fun ls hl => ?_)
    exact hloop w9.length 0 _ _ _ ls (by omega) (fun b j g1 g2 g3 g4 => q2_n (by omega)) (fun j g1 => q2_n (by omega)) q2_s (fun b j g1 g2 g3 => q2_n (by omega)) (fun b j g1 g2 g3 => by omega) (fun b j g1 g2 g3 => q2_n (by omega)) hW hS (lv_sub hl [0, 6, 7, 8, 5, 4, 3, 2, 1] rfl)
