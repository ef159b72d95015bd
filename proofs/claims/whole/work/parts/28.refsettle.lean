/-- every message bears a kind that is one -/
def qKd (n : Nat) (σ : qSt) : Prop := ∀ f t : Nat, f < n → t < n → ∀ z ∈ σ.2.2.2.1 f t, z.1 = 1 ∨ z.1 = 2 ∨ z.1 = 3 ∨ z.1 = 4 ∨ z.1 = 5 ∨ z.1 = 6
theorem q_to_none {σ : qSt} {f : Nat} : ∀ (c t : Nat), (∀ u, t ≤ u → u < t + c → σ.2.2.2.1 f u = []) → q_to σ f c t = none
  | 0, _, _ => rfl
  | c + 1, t, h => by
    rw [q_to, if_pos (h t (Nat.le_refl _) (by omega))]
    exact q_to_none c (t + 1) (fun u h1 h2 => h u (by omega) (by omega))
theorem q_to_some {σ : qSt} {f g : Nat} (hg : σ.2.2.2.1 f g ≠ []) : ∀ (c t : Nat), t ≤ g → g < t + c → (∀ u, t ≤ u → u < g → σ.2.2.2.1 f u = []) → q_to σ f c t = some g
  | 0, _, _, _, _ => by omega
  | c + 1, t, h1, h2, h => by
    by_cases ht : t = g
    · subst ht
      rw [q_to, if_neg hg]
    · rw [q_to, if_pos (h t (Nat.le_refl _) (by omega))]
      exact q_to_some hg c (t + 1) (by omega) (by omega) (fun u h3 h4 => h u (by omega) h4)
theorem q_from_none {n : Nat} {σ : qSt} (h : ∀ f t, f < n → t < n → σ.2.2.2.1 f t = []) : ∀ (c f : Nat), f + c = n → q_from n σ c f = none
  | 0, _, _ => rfl
  | c + 1, f, hf => by
    rw [q_from, q_to_none n 0 (fun u _ h2 => h f u (by omega) (by omega))]
    exact q_from_none h c (f + 1) (by omega)
theorem q_from_some {n : Nat} {σ : qSt} {f t : Nat} (hf : f < n) (ht : t < n) (hne : σ.2.2.2.1 f t ≠ []) (hb : ∀ f' t', f' < n → t' < n → (f' < f ∨ f' = f ∧ t' < t) → σ.2.2.2.1 f' t' = []) : ∀ (c g : Nat), g + c = n → g ≤ f → q_from n σ c g = some (f, t)
  | 0, _, _, _ => by omega
  | c + 1, g, hg, hgf => by
    by_cases he : g = f
    · subst he
      rw [q_from, q_to_some hne n 0 (by omega) (by omega) (fun u _ h2 => hb g u hf (by omega) (Or.inr ⟨rfl, h2⟩))]
    · rw [q_from, q_to_none n 0 (fun u _ h2 => hb g u (by omega) (by omega) (Or.inl (by omega)))]
      exact q_from_some hf ht hne hb c (g + 1) (by omega) (by omega)
set_option maxHeartbeats 4000000 in
set_option maxRecDepth 100000 in
/-- X5_settle -/
theorem c_X5_settle (l : Launch) (dd : va_G) (ga : Nat → ClassId) (n k : Nat) (ar : Nat → Nat) (σ : qSt) (hsq : qSq n k) (hL : qLr ar) (x : Int32) (I : Nat → qSt → Prop) (hI1 : ∀ c τ, I c τ → qCap n k τ ∧ qKd n τ) (hI2 : ∀ c τ f t, f < n → t < n → I (c + 1) τ → I c (q_deliver n τ f t).2) (hI0 : I 500 σ) (hI3 : ∀ c d τ, d ≤ c → I c τ → I d τ) : Met l yX5_settle wsX5_settle ({ frames := 4, cells := 0, slots := 0, locals := 104 }) (qPc dd ga [.ref (ar 0), .int x] (fun H => qR dd ga n k ar σ H)) (qQi (fun v H => v = (q_settleI n σ x).1 ∧ qR dd ga n k ar (q_settleI n σ x).2 H) (qAr ar)) 0 0 (qAr ar) := by
  refine Met.ofW (cc := cX5_settle) (maxL := 5) (ret := (some .int)) (by decide) rfl ?_
  intro p e s m args below meth c s₁ B hml hv
  obtain ⟨rfl, ⟨ρ, hRp, hW⟩, hK⟩ := hv
  have hx := B.exec
  have hb := B.bytes
  have hr := B.returns
  have hts := atoms_spec (ws := wsX5_settle) B.pre
  have hown : s.vm.findClass RX5 = some m.cls := findClass_of_methodNamed B.named
  have hlocks := B.notSynchronized
  have hS : qS (qAr ar) s.heap s.heap [] := qS.rf
  have hl := lv_entry ([.ref (ar 0), .int x]) (n := 5) (Nat.le_of_ble_eq_true rfl)
  rw [lg_entry_eq]
  generalize (lg_sl ([.ref (ar 0), .int x]) ++ List.replicate (5 - (lg_sl ([.ref (ar 0), .int x])).length) Slot.unset).toArray = ls at hl ⊢
  have hin5 : ∀ w ∈ wsX50, w ∈ wsX5_settle := by decide +kernel
  have hn1 := hsq.n.1
  have hn16 := hsq.n.2
  refine lv_iload_n hx hb dX5_settle_0 rfl (lv_at hl 1 rfl) ?_
  refine lv_iconst (v := 1) hx hb dX5_settle_1 (by decide) ?_
  refine lv_icmp_lt (tgt := 12) hx hb dX5_settle_2 (by decide) (fun c_2 => ?_) (fun c_2 => ?_)
  · have hfin : (-1 : Int32) = (q_settleI n σ x).1 ∧ qR dd ga n k ar (q_settleI n σ x).2 s.heap := by rw [q_settleI, if_pos (Or.inl c_2)]; exact ⟨rfl, ρ, hRp, hW⟩
    refine lv_iconst (v := (-1)) hx hb dX5_settle_12 (by decide) ?_
    exact q_iret hx hb hr hlocks hS hfin dX5_settle_13
  · refine lv_iload_n hx hb dX5_settle_5 rfl (lv_at hl 1 rfl) ?_
    refine lv_sipush (v := 500) hx hb dX5_settle_6 (by decide) ?_
    refine lv_icmp_le (tgt := 14) hx hb dX5_settle_9 (by decide) (fun c_9 => ?_) (fun c_9 => ?_)
    · have hno : ¬ (x < 1 ∨ 500 < x) := fun h => h.elim c_2 (fun h => absurd c_9 (Int32.not_le.mpr h))
      obtain ⟨j, hj, ej⟩ : ∃ j : Nat, j ≤ 500 ∧ x = nI j := nI_of2 (M := 500) (by decide) (fun h => c_2 (Int32.lt_trans h (by decide))) c_9
      have hsI : q_settleI n σ x = (nI (q_settle n j 0 σ).1, (q_settle n j 0 σ).2) := by rw [q_settleI, if_neg hno, ej, nI_clamp (by omega)]
      subst ej
      have hloop : ∀ (c9 d9 : Nat) (τ : qSt) (ls : Array Slot) (H : Heap) (locs : List Loc), d9 + c9 = j → q_settle n j 0 σ = q_settle n c9 d9 τ → I c9 τ → qR dd ga n k ar τ H → qS (qAr ar) s.heap H locs → lv_has ls 5 [(2, .int (nI d9)), (0, .ref (ar 0)), (1, .int (nI j))] → W p l e (headSpec wsX5_settle ({ frames := 4, cells := 0, slots := 0, locals := 104 })).room s m (([.ref (ar 0), .int (nI j)] : List Value).toArray) below meth c H locs 0 0 (MQ below (qQi (fun v H => v = (q_settleI n σ (nI j)).1 ∧ qR dd ga n k ar (q_settleI n σ (nI j)).2 H) (qAr ar)) (([.ref (ar 0), .int (nI j)] : List Value).toArray) s 0 0 (qAr ar)) (F0 m 16 ls []) := by
        intro c9
        induction c9 with
        | zero =>
          intro d9 τ ls H locs hc he hI hR hS hl
          obtain ⟨ρ, hRp, hW⟩ := hR
          refine lv_iload_n hx hb dX5_settle_16 rfl (lv_at hl 0 rfl) ?_
          refine lv_iload_n hx hb dX5_settle_17 rfl (lv_at hl 2 rfl) ?_
          refine lv_icmp_ge (tgt := 74) hx hb dX5_settle_18 (by decide) (fun c_18 => ?_) (fun c_18 => absurd (nI_le (show j ≤ d9 by omega) (by omega)) c_18)
          refine lv_iload_n hx hb dX5_settle_74 rfl (lv_at hl 0 rfl) ?_
          exact q_iret hx hb hr hlocks hS (by rw [hsI, he]; exact ⟨rfl, ρ, hRp, hW⟩) dX5_settle_75
        | succ c9 ih =>
          intro d9 τ ls H locs hc he hI hR hS hl
          obtain ⟨ρ, hRp, hW⟩ := hR
          have hcp := hI1 _ _ hI
          have hin : ∀ (e9 w9 : Nat) (ls : Array Slot), w9 + e9 = 256 → (∀ f t : Nat, f < 16 → t < 16 → 16 * f + t < w9 → τ.2.2.2.1 f t = []) → lv_has ls 5 [(3, .int (nI w9)), (2, .int (nI d9)), (0, .ref (ar 0)), (1, .int (nI j))] → W p l e (headSpec wsX5_settle ({ frames := 4, cells := 0, slots := 0, locals := 104 })).room s m (([.ref (ar 0), .int (nI j)] : List Value).toArray) below meth c H locs 0 0 (MQ below (qQi (fun v H => v = (q_settleI n σ (nI j)).1 ∧ qR dd ga n k ar (q_settleI n σ (nI j)).2 H) (qAr ar)) (([.ref (ar 0), .int (nI j)] : List Value).toArray) s 0 0 (qAr ar)) (F0 m 23 ls []) := by
            intro e9
            induction e9 with
            | zero =>
              intro w9 ls hw he9 hl
              have hw9 : w9 = 256 := by omega
              subst hw9
              have hfr : q_from n τ n 0 = none := q_from_none (fun f t hf ht => he9 f t (by omega) (by omega) (by omega)) n 0 (by omega)
              refine lv_iload_n hx hb dX5_settle_23 rfl (lv_at hl 0 rfl) ?_
              refine lv_sipush (v := nI 256) hx hb dX5_settle_24 (by decide) ?_
              refine lv_icmp_ge (tgt := 45) hx hb dX5_settle_27 (by decide) (fun c_27 => ?_) (fun c_27 => absurd (nI_le (Nat.le_refl 256) (by decide)) c_27)
              refine lv_iload_n hx hb dX5_settle_45 rfl (lv_at hl 0 rfl) ?_
              refine lv_sipush (v := nI 256) hx hb dX5_settle_46 (by decide) ?_
              refine lv_icmp_ne (tgt := 54) hx hb dX5_settle_49 (by decide) (fun c_49 => absurd rfl c_49) (fun c_49 => ?_)
              refine lv_iload_n hx hb dX5_settle_52 rfl (lv_at hl 1 rfl) ?_
              exact q_iret hx hb hr hlocks hS (by rw [hsI, he, q_settle, hfr]; exact ⟨rfl, ρ, hRp, hW⟩) dX5_settle_53
            | succ e9 ihw =>
              intro w9 ls hw he9 hl
              have hw9 : w9 < 256 := by omega
              obtain ⟨f9, t9, hf16, ht16, hwft⟩ : ∃ f t : Nat, f < 16 ∧ t < 16 ∧ w9 = 16 * f + t := ⟨w9 / 16, w9 % 16, by omega, by omega, by omega⟩
              have hwb := hRp.2.2.2.1 f9 t9 hf16 ht16
              refine lv_iload_n hx hb dX5_settle_23 rfl (lv_at hl 0 rfl) ?_
              refine lv_sipush (v := nI 256) hx hb dX5_settle_24 (by decide) ?_
              refine lv_icmp_ge (tgt := 45) hx hb dX5_settle_27 (by decide) (fun c_27 => absurd c_27 (nI_ge (by omega) (by omega))) (fun c_27 => ?_)
              refine lv_aload_n hx hb dX5_settle_30 rfl (lv_at hl 2 rfl) ?_
              refine qr_get (ci := 5) (C := RX5) (T := TX5) (N := 19) hx hb hts hin5 hown hK hW.self rfl 14 (by decide) (hts (.fieldLink RX5 47 "QuorumLockModel" "lying" "[I") (by decide +kernel)) rfl dX5_settle_31 ?_
              refine lv_iload_n hx hb dX5_settle_34 rfl (lv_at hl 0 rfl) ?_
              refine qr_iald (v := (nI (τ.2.2.2.1 f9 t9).length)) hx hb hK hW.a13 (16 * f9 + t9) (by omega) (by omega) (by rw [hwft]) hwb.1 dX5_settle_35 ?_
              refine lv_if_ne (tgt := 45) hx hb dX5_settle_36 (by decide) (fun c_36 => ?_) (fun c_36 => ?_)
              · have hne : τ.2.2.2.1 f9 t9 ≠ [] := fun h => c_36 (by rw [h]; rfl)
                have hft : f9 < n ∧ t9 < n := Classical.byContradiction fun h => hne (hRp.2.2.2.2 f9 t9 h)
                obtain ⟨hf9, ht9⟩ := hft
                have hfr : q_from n τ n 0 = some (f9, t9) := q_from_some hf9 ht9 hne (fun f t hf ht hlt => he9 f t (by omega) (by omega) (by omega)) n 0 (by omega) (by omega)
                have hdI : q_deliverI n τ (nI f9) (nI t9) = q_deliver n τ f9 t9 := by rw [q_deliverI, if_pos ⟨q_nodeY hn16 hf9, q_nodeY hn16 ht9⟩, nI_clamp (by omega), nI_clamp (by omega)]
                refine lv_iload_n hx hb dX5_settle_45 rfl (lv_at hl 0 rfl) ?_
                refine lv_sipush (v := nI 256) hx hb dX5_settle_46 (by decide) ?_
                refine lv_icmp_ne (tgt := 54) hx hb dX5_settle_49 (by decide) (fun c_49 => ?_) (fun c_49 => absurd ((nI_eq (by omega) (by decide)).mp c_49) (by omega))
                refine lv_aload_n hx hb dX5_settle_54 rfl (lv_at hl 2 rfl) ?_
                refine lv_iload_n hx hb dX5_settle_55 rfl (lv_at hl 0 rfl) ?_
                refine lv_bipush (v := nI 16) hx hb dX5_settle_56 (by decide) ?_
                refine lv_idiv hx hb dX5_settle_58 (by decide) ?_
                refine q_ti (y := nI f9) ((pk_div (by omega) (by decide) (by decide)).trans (by rw [show w9 / 16 = f9 by omega])) ?_
                refine lv_iload_n hx hb dX5_settle_59 rfl (lv_at hl 0 rfl) ?_
                refine lv_bipush (v := nI 16) hx hb dX5_settle_60 (by decide) ?_
                refine lv_irem hx hb dX5_settle_62 (by decide) ?_
                refine q_ti (y := nI t9) ((pk_rem (by omega) (by decide) (by decide)).trans (by rw [show w9 % 16 = t9 by omega])) ?_
                refine qc_i (va_runV (As := [.int (nI f9), .int (nI t9)]) (rest := []) ⟨hx, hb, hml, hown, hts⟩ (c_X5_deliver l dd ga n k ar τ hsq hL (nI f9) (nI t9) hcp.1 hcp.2) (cwV 2 hts gX5_settle_X5_deliver rfl rfl rfl (by decide +kernel) ⟨Nat.le_of_ble_eq_true rfl, Nat.le_of_ble_eq_true rfl⟩) (qpreV hK (⟨ρ, hRp, hW⟩) hW.self rfl) rfl rfl hl.1 rfl (lv_room (Nat.le_of_ble_eq_true rfl)) dX5_settle_63 ⟨Nat.zero_le _, Nat.zero_le _⟩) hS (fun q h => h) (fun v63 H locs hp9 hz9 ho9 hS => ?_)
                obtain ⟨e63, hR⟩ := hp9
                refine lv_istore (lv' := [(4, .int v63), (3, .int (nI w9)), (2, .int (nI d9)), (0, .ref (ar 0)), (1, .int (nI j))]) hx hb dX5_settle_66 hl (by decide) rfl (fun ls hl => ?_)
                refine lv_iinc (v := nI (d9 + 1)) (lv' := [(2, .int (nI (d9 + 1))), (4, .int v63), (3, .int (nI w9)), (0, .ref (ar 0)), (1, .int (nI j))]) hx hb dX5_settle_68 hl (k := 2) rfl (nI_1 _) (by decide) rfl (fun ls hl => ?_)
                refine lv_goto (tgt := 16) hx hb dX5_settle_71 (by decide) ?_
                rw [hdI] at hR
                exact ih (d9 + 1) _ ls _ _ (by omega) (by rw [he, q_settle, hfr]) (hI2 _ _ _ _ hf9 ht9 hI) hR hS (lv_sub hl [0, 3, 4] rfl)
              · refine lv_iinc (v := nI (w9 + 1)) (lv' := [(3, .int (nI (w9 + 1))), (2, .int (nI d9)), (0, .ref (ar 0)), (1, .int (nI j))]) hx hb dX5_settle_39 hl (k := 0) rfl (nI_1 _) (by decide) rfl (fun ls hl => ?_)
                refine lv_goto (tgt := 23) hx hb dX5_settle_42 (by decide) ?_
                refine ihw (w9 + 1) ls (by omega) (fun f t hf ht hlt => ?_) (lv_sub hl [0, 1, 2, 3] rfl)
                rcases Nat.lt_or_ge (16 * f + t) w9 with h | h
                · exact he9 f t hf ht h
                · have h1 : f = f9 := by omega
                  have h2 : t = t9 := by omega
                  rw [h1, h2]
                  exact List.length_eq_zero_iff.mp ((nI_eq (b := 0) (by omega) (by decide)).mp c_36)
          refine lv_iload_n hx hb dX5_settle_16 rfl (lv_at hl 0 rfl) ?_
          refine lv_iload_n hx hb dX5_settle_17 rfl (lv_at hl 2 rfl) ?_
          refine lv_icmp_ge (tgt := 74) hx hb dX5_settle_18 (by decide) (fun c_18 => absurd c_18 (nI_ge (by omega) (by omega))) (fun c_18 => ?_)
          refine lv_iconst (v := nI 0) hx hb dX5_settle_21 (by decide) ?_
          refine lv_istore_n (lv' := [(3, .int (nI 0)), (2, .int (nI d9)), (0, .ref (ar 0)), (1, .int (nI j))]) hx hb dX5_settle_22 rfl hl (by decide) rfl (fun ls hl => ?_)
          exact hin 256 0 ls (by omega) (fun f t _ _ h => by omega) (lv_sub hl [0, 1, 2, 3] rfl)
      refine lv_iconst (v := nI 0) hx hb dX5_settle_14 (by decide) ?_
      refine lv_istore_n (lv' := [(2, .int (nI 0)), (0, .ref (ar 0)), (1, .int (nI j))]) hx hb dX5_settle_15 rfl hl (by decide) rfl (fun ls hl => ?_)
      exact hloop j 0 σ ls _ _ (by omega) rfl (hI3 _ _ _ hj hI0) ⟨ρ, hRp, hW⟩ hS hl
    · have hfin : (-1 : Int32) = (q_settleI n σ x).1 ∧ qR dd ga n k ar (q_settleI n σ x).2 s.heap := by rw [q_settleI, if_pos (Or.inr (Int32.not_le.mp c_9))]; exact ⟨rfl, ρ, hRp, hW⟩
      refine lv_iconst (v := (-1)) hx hb dX5_settle_12 (by decide) ?_
      exact q_iret hx hb hr hlocks hS hfin dX5_settle_13
set_option maxHeartbeats 4000000 in
set_option maxRecDepth 100000 in
/-- X5_init_ -/
theorem c_X5_init_ (l : Launch) (dd : va_G) (ga : Nat → ClassId) (n k : Nat) (ar : Nat → Nat) (ρ0 : Nat → Nat → Int32) (en : Int32) (hsq : qSq n k) (hL : qLr ar) : Met l yX5_init_ wsX5_init_ ({ frames := 0, cells := 0, slots := 0, locals := 0 }) (qPc dd ga [.ref (ar 0)] (fun H => qR0 dd ga n k ar ρ0 en H)) (qQv (fun H => qR dd ga n k ar q_init H) (qAr ar)) 0 0 (qAr ar) := by
  refine Met.ofW (cc := cX5_init_) (maxL := 2) (ret := none) (by decide) rfl ?_
  intro p e s m args below meth c s₁ B hml hv
  obtain ⟨rfl, hW, hK⟩ := hv
  have hx := B.exec
  have hb := B.bytes
  have hr := B.returns
  have hts := atoms_spec (ws := wsX5_init_) B.pre
  have hown : s.vm.findClass RX5 = some m.cls := findClass_of_methodNamed B.named
  have hlocks := B.notSynchronized
  have hS : qS (qAr ar) s.heap s.heap [] := qS.rf
  have hl := lv_entry ([.ref (ar 0)]) (n := 2) (Nat.le_of_ble_eq_true rfl)
  rw [lg_entry_eq]
  generalize (lg_sl ([.ref (ar 0)]) ++ List.replicate (2 - (lg_sl ([.ref (ar 0)])).length) Slot.unset).toArray = ls at hl ⊢
  have hin5 : ∀ w ∈ wsX50, w ∈ wsX5_init_ := by decide +kernel
  have hn1 := hsq.n.1
  have hn16 := hsq.n.2
  have hloop2 : ∀ (c9 i9 : Nat) (ρ9 : Nat → Nat → Int32) (ls : Array Slot) (H : Heap) (locs : List Loc), i9 + c9 = 256 → (∀ b j : Nat, 1 ≤ b → b ≤ 10 → b ≠ 7 → j < 16 → ρ9 b j = 0) → (∀ j : Nat, j < 16 → ρ9 7 j = -1) → (∀ j : Nat, j < i9 → ρ9 13 j = 0) → qR0 dd ga n k ar ρ9 en H → qS (qAr ar) s.heap H locs → lv_has ls 2 [(1, .int (nI i9)), (0, .ref (ar 0))] → W p l e (headSpec wsX5_init_ ({ frames := 0, cells := 0, slots := 0, locals := 0 })).room s m (([.ref (ar 0)] : List Value).toArray) below meth c H locs 0 0 (MQ below (qQv (fun H => qR dd ga n k ar q_init H) (qAr ar)) (([.ref (ar 0)] : List Value).toArray) s 0 0 (qAr ar)) (F0 m 86 ls []) := by
    intro c9
    induction c9 with
    | zero =>
      intro i9 ρ9 ls H locs hc h0 h7 h13 hW hS hl
      refine lv_iload_n hx hb dX5_init__86 rfl (lv_at hl 0 rfl) ?_
      refine lv_sipush (v := nI 256) hx hb dX5_init__87 (by decide) ?_
      refine lv_icmp_ge (tgt := 106) hx hb dX5_init__90 (by decide) (fun c_90 => ?_) (fun c_90 => absurd (nI_le (show 256 ≤ i9 by omega) (by omega)) c_90)
      refine lv_aload_n hx hb dX5_init__106 rfl (lv_at hl 1 rfl) ?_
      refine lv_iconst (v := 0) hx hb dX5_init__107 (by decide) ?_
      refine qr_put (ci := 5) (C := RX5) (T := TX5) (N := 19) hx hb hts hin5 tyX5 tyX5_ok nmX5 hown hK hW.self hS (⟨0, by decide, rfl⟩) rfl 18 (by decide) (hts (.fieldLink RX5 69 "QuorumLockModel" "entered" "I") (by decide +kernel)) rfl rfl rfl (Nat.le_of_ble_eq_true rfl) dX5_init__108 (fun H locs hz9 ho9 hat9 hS => ?_)
      have hW := hW.putEn hL ho9 hat9
      refine q_vret hx hb hr hlocks hS ⟨ρ9, ⟨fun f i hf hi => ?_, fun i hi => ⟨h7 i (by omega), fun x hx => by cases hx⟩, fun i hi => ⟨h0 10 i (by decide) (by decide) (by decide) (by omega), by simp [q_init], fun j x hx => by simp [q_init] at hx⟩, fun f t hf ht => ⟨h13 _ (by omega), by simp [q_init], fun j x hx => by simp [q_init] at hx⟩, fun f t _ => rfl⟩, hW⟩ dX5_init__111
      have := q_ai_n hf
      exact h0 (q_ai f) i (by unfold q_ai; split <;> omega) (by unfold q_ai; split <;> omega) (by omega) (by omega)
    | succ c9 ih =>
      intro i9 ρ9 ls H locs hc h0 h7 h13 hW hS hl
      refine lv_iload_n hx hb dX5_init__86 rfl (lv_at hl 0 rfl) ?_
      refine lv_sipush (v := nI 256) hx hb dX5_init__87 (by decide) ?_
      refine lv_icmp_ge (tgt := 106) hx hb dX5_init__90 (by decide) (fun c_90 => absurd c_90 (nI_ge (by omega) (by omega))) (fun c_90 => ?_)
      refine lv_aload_n hx hb dX5_init__93 rfl (lv_at hl 1 rfl) ?_
      refine qr_get (ci := 5) (C := RX5) (T := TX5) (N := 19) hx hb hts hin5 hown hK hW.self rfl 14 (by decide) (hts (.fieldLink RX5 47 "QuorumLockModel" "lying" "[I") (by decide +kernel)) rfl dX5_init__94 ?_
      refine lv_iload_n hx hb dX5_init__97 rfl (lv_at hl 0 rfl) ?_
      refine lv_iconst (v := 0) hx hb dX5_init__98 (by decide) ?_
      refine qr_iast hx hb hK hW.a13 hS (⟨13, by decide, rfl⟩) i9 (by omega) (by omega) rfl dX5_init__99 (fun H locs hz9 ho9 hat9 hS => ?_)
      have hW := hW.put hL 13 i9 0 (by decide) (by decide) ho9 hat9
      refine lv_iinc (v := nI (i9 + 1)) (lv' := [(1, .int (nI (i9 + 1))), (0, .ref (ar 0))]) hx hb dX5_init__100 hl (k := 0) rfl (nI_1 _) (by decide) rfl (fun ls hl => ?_)
      refine lv_goto (tgt := 86) hx hb dX5_init__103 (by decide) ?_
      refine ih (i9 + 1) _ ls _ _ (by omega) (fun b j g1 g2 g3 g4 => ?_) (fun j g => ?_) (fun j g => ?_) hW hS (lv_sub hl [0, 1] rfl)
      · rw [q2_n (by omega)]; exact h0 b j g1 g2 g3 g4
      · rw [q2_n (by omega)]; exact h7 j g
      · by_cases h : j = i9
        · subst h; exact q2_s
        · rw [q2_n (fun h2 => h h2.2)]; exact h13 j (by omega)
  have hloop1 : ∀ (c9 i9 : Nat) (ρ9 : Nat → Nat → Int32) (ls : Array Slot) (H : Heap) (locs : List Loc), i9 + c9 = 16 → (∀ b j : Nat, 1 ≤ b → b ≤ 10 → b ≠ 7 → j < i9 → ρ9 b j = 0) → (∀ j : Nat, j < i9 → ρ9 7 j = -1) → qR0 dd ga n k ar ρ9 en H → qS (qAr ar) s.heap H locs → lv_has ls 2 [(1, .int (nI i9)), (0, .ref (ar 0))] → W p l e (headSpec wsX5_init_ ({ frames := 0, cells := 0, slots := 0, locals := 0 })).room s m (([.ref (ar 0)] : List Value).toArray) below meth c H locs 0 0 (MQ below (qQv (fun H => qR dd ga n k ar q_init H) (qAr ar)) (([.ref (ar 0)] : List Value).toArray) s 0 0 (qAr ar)) (F0 m 2 ls []) := by
    intro c9
    induction c9 with
    | zero =>
      intro i9 ρ9 ls H locs hc h0 h7 hW hS hl
      have hi9 : i9 = 16 := by omega
      subst hi9
      refine lv_iload_n hx hb dX5_init__2 rfl (lv_at hl 0 rfl) ?_
      refine lv_bipush (v := nI 16) hx hb dX5_init__3 (by decide) ?_
      refine lv_icmp_ge (tgt := 84) hx hb dX5_init__5 (by decide) (fun c_5 => ?_) (fun c_5 => absurd (nI_le (Nat.le_refl 16) (by decide)) c_5)
      refine lv_iconst (v := nI 0) hx hb dX5_init__84 (by decide) ?_
      refine lv_istore_n (lv' := [(1, .int (nI 0)), (0, .ref (ar 0))]) hx hb dX5_init__85 rfl hl (by decide) rfl (fun ls hl => ?_)
      exact hloop2 256 0 ρ9 ls _ _ (by omega) h0 h7 (fun j h => by omega) hW hS (lv_sub hl [0, 1] rfl)
    | succ c9 ih =>
      intro i9 ρ9 ls H locs hc h0 h7 hW hS hl
      refine lv_iload_n hx hb dX5_init__2 rfl (lv_at hl 0 rfl) ?_
      refine lv_bipush (v := nI 16) hx hb dX5_init__3 (by decide) ?_
      refine lv_icmp_ge (tgt := 84) hx hb dX5_init__5 (by decide) (fun c_5 => absurd c_5 (nI_ge (by omega) (by omega))) (fun c_5 => ?_)
      refine lv_aload_n hx hb dX5_init__8 rfl (lv_at hl 1 rfl) ?_
      refine qr_get (ci := 5) (C := RX5) (T := TX5) (N := 19) hx hb hts hin5 hown hK hW.self rfl 2 (by decide) (hts (.fieldLink RX5 7 "QuorumLockModel" "clock" "[I") (by decide +kernel)) rfl dX5_init__9 ?_
      refine lv_iload_n hx hb dX5_init__12 rfl (lv_at hl 0 rfl) ?_
      refine lv_iconst (v := 0) hx hb dX5_init__13 (by decide) ?_
      refine qr_iast hx hb hK hW.a1 hS (⟨1, by decide, rfl⟩) i9 (by omega) (by omega) rfl dX5_init__14 (fun H locs hz9 ho9 hat9 hS => ?_)
      have hW := hW.put hL 1 i9 0 (by decide) (by decide) ho9 hat9
      refine lv_aload_n hx hb dX5_init__15 rfl (lv_at hl 1 rfl) ?_
      refine qr_get (ci := 5) (C := RX5) (T := TX5) (N := 19) hx hb hts hin5 hown hK hW.self rfl 3 (by decide) (hts (.fieldLink RX5 13 "QuorumLockModel" "state" "[I") (by decide +kernel)) rfl dX5_init__16 ?_
      refine lv_iload_n hx hb dX5_init__19 rfl (lv_at hl 0 rfl) ?_
      refine lv_iconst (v := 0) hx hb dX5_init__20 (by decide) ?_
      refine qr_iast hx hb hK hW.a2 hS (⟨2, by decide, rfl⟩) i9 (by omega) (by omega) rfl dX5_init__21 (fun H locs hz9 ho9 hat9 hS => ?_)
      have hW := hW.put hL 2 i9 0 (by decide) (by decide) ho9 hat9
      refine lv_aload_n hx hb dX5_init__22 rfl (lv_at hl 1 rfl) ?_
      refine qr_get (ci := 5) (C := RX5) (T := TX5) (N := 19) hx hb hts hin5 hown hK hW.self rfl 4 (by decide) (hts (.fieldLink RX5 16 "QuorumLockModel" "time" "[I") (by decide +kernel)) rfl dX5_init__23 ?_
      refine lv_iload_n hx hb dX5_init__26 rfl (lv_at hl 0 rfl) ?_
      refine lv_iconst (v := 0) hx hb dX5_init__27 (by decide) ?_
      refine qr_iast hx hb hK hW.a3 hS (⟨3, by decide, rfl⟩) i9 (by omega) (by omega) rfl dX5_init__28 (fun H locs hz9 ho9 hat9 hS => ?_)
      have hW := hW.put hL 3 i9 0 (by decide) (by decide) ho9 hat9
      refine lv_aload_n hx hb dX5_init__29 rfl (lv_at hl 1 rfl) ?_
      refine qr_get (ci := 5) (C := RX5) (T := TX5) (N := 19) hx hb hts hin5 hown hK hW.self rfl 5 (by decide) (hts (.fieldLink RX5 19 "QuorumLockModel" "votes" "[I") (by decide +kernel)) rfl dX5_init__30 ?_
      refine lv_iload_n hx hb dX5_init__33 rfl (lv_at hl 0 rfl) ?_
      refine lv_iconst (v := 0) hx hb dX5_init__34 (by decide) ?_
      refine qr_iast hx hb hK hW.a4 hS (⟨4, by decide, rfl⟩) i9 (by omega) (by omega) rfl dX5_init__35 (fun H locs hz9 ho9 hat9 hS => ?_)
      have hW := hW.put hL 4 i9 0 (by decide) (by decide) ho9 hat9
      refine lv_aload_n hx hb dX5_init__36 rfl (lv_at hl 1 rfl) ?_
      refine qr_get (ci := 5) (C := RX5) (T := TX5) (N := 19) hx hb hts hin5 hown hK hW.self rfl 6 (by decide) (hts (.fieldLink RX5 22 "QuorumLockModel" "failures" "[I") (by decide +kernel)) rfl dX5_init__37 ?_
      refine lv_iload_n hx hb dX5_init__40 rfl (lv_at hl 0 rfl) ?_
      refine lv_iconst (v := 0) hx hb dX5_init__41 (by decide) ?_
      refine qr_iast hx hb hK hW.a5 hS (⟨5, by decide, rfl⟩) i9 (by omega) (by omega) rfl dX5_init__42 (fun H locs hz9 ho9 hat9 hS => ?_)
      have hW := hW.put hL 5 i9 0 (by decide) (by decide) ho9 hat9
      refine lv_aload_n hx hb dX5_init__43 rfl (lv_at hl 1 rfl) ?_
      refine qr_get (ci := 5) (C := RX5) (T := TX5) (N := 19) hx hb hts hin5 hown hK hW.self rfl 7 (by decide) (hts (.fieldLink RX5 25 "QuorumLockModel" "inquiries" "[I") (by decide +kernel)) rfl dX5_init__44 ?_
      refine lv_iload_n hx hb dX5_init__47 rfl (lv_at hl 0 rfl) ?_
      refine lv_iconst (v := 0) hx hb dX5_init__48 (by decide) ?_
      refine qr_iast hx hb hK hW.a6 hS (⟨6, by decide, rfl⟩) i9 (by omega) (by omega) rfl dX5_init__49 (fun H locs hz9 ho9 hat9 hS => ?_)
      have hW := hW.put hL 6 i9 0 (by decide) (by decide) ho9 hat9
      refine lv_aload_n hx hb dX5_init__50 rfl (lv_at hl 1 rfl) ?_
      refine qr_get (ci := 5) (C := RX5) (T := TX5) (N := 19) hx hb hts hin5 hown hK hW.self rfl 8 (by decide) (hts (.fieldLink RX5 28 "QuorumLockModel" "lent" "[I") (by decide +kernel)) rfl dX5_init__51 ?_
      refine lv_iload_n hx hb dX5_init__54 rfl (lv_at hl 0 rfl) ?_
      refine lv_iconst (v := (-1)) hx hb dX5_init__55 (by decide) ?_
      refine qr_iast hx hb hK hW.a7 hS (⟨7, by decide, rfl⟩) i9 (by omega) (by omega) rfl dX5_init__56 (fun H locs hz9 ho9 hat9 hS => ?_)
      have hW := hW.put hL 7 i9 (-1) (by decide) (by decide) ho9 hat9
      refine lv_aload_n hx hb dX5_init__57 rfl (lv_at hl 1 rfl) ?_
      refine qr_get (ci := 5) (C := RX5) (T := TX5) (N := 19) hx hb hts hin5 hown hK hW.self rfl 9 (by decide) (hts (.fieldLink RX5 31 "QuorumLockModel" "lentTime" "[I") (by decide +kernel)) rfl dX5_init__58 ?_
      refine lv_iload_n hx hb dX5_init__61 rfl (lv_at hl 0 rfl) ?_
      refine lv_iconst (v := 0) hx hb dX5_init__62 (by decide) ?_
      refine qr_iast hx hb hK hW.a8 hS (⟨8, by decide, rfl⟩) i9 (by omega) (by omega) rfl dX5_init__63 (fun H locs hz9 ho9 hat9 hS => ?_)
      have hW := hW.put hL 8 i9 0 (by decide) (by decide) ho9 hat9
      refine lv_aload_n hx hb dX5_init__64 rfl (lv_at hl 1 rfl) ?_
      refine qr_get (ci := 5) (C := RX5) (T := TX5) (N := 19) hx hb hts hin5 hown hK hW.self rfl 10 (by decide) (hts (.fieldLink RX5 34 "QuorumLockModel" "inquired" "[Z") (by decide +kernel)) rfl dX5_init__65 ?_
      refine lv_iload_n hx hb dX5_init__68 rfl (lv_at hl 0 rfl) ?_
      refine lv_iconst (v := 0) hx hb dX5_init__69 (by decide) ?_
      refine qr_zast hx hb hK hW.a9 hS (⟨9, by decide, rfl⟩) i9 (by omega) (by omega) rfl rfl dX5_init__70 (fun H locs hz9 ho9 hat9 hS => ?_)
      have hW := hW.put hL 9 i9 0 (by decide) (by decide) ho9 hat9
      refine lv_aload_n hx hb dX5_init__71 rfl (lv_at hl 1 rfl) ?_
      refine qr_get (ci := 5) (C := RX5) (T := TX5) (N := 19) hx hb hts hin5 hown hK hW.self rfl 11 (by decide) (hts (.fieldLink RX5 38 "QuorumLockModel" "rows" "[I") (by decide +kernel)) rfl dX5_init__72 ?_
      refine lv_iload_n hx hb dX5_init__75 rfl (lv_at hl 0 rfl) ?_
      refine lv_iconst (v := 0) hx hb dX5_init__76 (by decide) ?_
      refine qr_iast hx hb hK hW.a10 hS (⟨10, by decide, rfl⟩) i9 (by omega) (by omega) rfl dX5_init__77 (fun H locs hz9 ho9 hat9 hS => ?_)
      have hW := hW.put hL 10 i9 0 (by decide) (by decide) ho9 hat9
      refine lv_iinc (v := nI (i9 + 1)) (lv' := [(1, .int (nI (i9 + 1))), (0, .ref (ar 0))]) hx hb dX5_init__78 hl (k := 0) rfl (nI_1 _) (by decide) rfl (fun ls hl => ?_)
      refine lv_goto (tgt := 2) hx hb dX5_init__81 (by decide) ?_
      refine ih (i9 + 1) _ ls _ _ (by omega) (fun b j g1 g2 g3 g4 => ?_) (fun j g => ?_) hW hS (lv_sub hl [0, 1] rfl)
      · by_cases h : j = i9
        · subst h
          rcases (show b = 1 ∨ b = 2 ∨ b = 3 ∨ b = 4 ∨ b = 5 ∨ b = 6 ∨ b = 8 ∨ b = 9 ∨ b = 10 by omega) with h | h | h | h | h | h | h | h | h <;> subst h <;> simp [q2]
        · have h9 := h0 b j g1 g2 g3 (by omega)
          simp [q2, h, h9]
      · by_cases h : j = i9
        · subst h; simp [q2]
        · have h9 := h7 j (by omega)
          simp [q2, h, h9]
  refine lv_iconst (v := nI 0) hx hb dX5_init__0 (by decide) ?_
  refine lv_istore_n (lv' := [(1, .int (nI 0)), (0, .ref (ar 0))]) hx hb dX5_init__1 rfl hl (by decide) rfl (fun ls hl => ?_)
  exact hloop1 16 0 ρ0 ls _ _ (by omega) (fun b j _ _ _ h => by omega) (fun j h => by omega) hW hS (lv_sub hl [0, 1] rfl)
