theorem q_tb_comm (σ : qSt) {f g : Nat} (i : Nat) (v w : Int32) (h : f ≠ g) : s_tb (s_tb σ f i v) g i w = s_tb (s_tb σ g i w) f i v := by
  unfold s_tb
  simp only
  congr 1
  funext a b
  simp only [q2]
  by_cases h1 : a = g ∧ b = i
  · rw [if_pos h1, if_neg (by omega), if_pos h1]
  · rw [if_neg h1]
    by_cases h2 : a = f ∧ b = i
    · rw [if_pos h2, if_pos h2]
    · rw [if_neg h2, if_neg h2, if_neg h1]
set_option maxHeartbeats 4000000 in
set_option maxRecDepth 100000 in
/-- X5_request -/
theorem c_X5_request (l : Launch) (dd : va_G) (ga : Nat → ClassId) (n k : Nat) (ar : Nat → Nat) (σ : qSt) (hsq : qSq n k) (hL : qLr ar) (x : Int32) (hcap : qCap n k σ) : Met l yX5_request wsX5_request ({ frames := 2, cells := 0, slots := 0, locals := 50 }) (qPc dd ga [.ref (ar 0), .int x] (fun H => qR dd ga n k ar σ H)) (qQi (fun v H => v = (q_requestI n k σ x).1 ∧ qR dd ga n k ar (q_requestI n k σ x).2 H) (qAr ar)) 0 0 (qAr ar) := by
  rcases q_nodeC hsq.n.2 x with ⟨hnx, i, hi, rfl⟩ | hnx
  · refine Met.ofW (cc := cX5_request) (maxL := 2) (ret := (some .int)) (by decide) rfl ?_
    intro p e s m args below meth c s₁ B hml hv
    obtain ⟨rfl, ⟨ρ, hRp, hW⟩, hK⟩ := hv
    have hx := B.exec
    have hb := B.bytes
    have hr := B.returns
    have hts := atoms_spec (ws := wsX5_request) B.pre
    have hown : s.vm.findClass RX5 = some m.cls := findClass_of_methodNamed B.named
    have hlocks := B.notSynchronized
    have hS : qS (qAr ar) s.heap s.heap [] := qS.rf
    have hl := lv_entry ([.ref (ar 0), .int (nI i)]) (n := 2) (Nat.le_of_ble_eq_true rfl)
    rw [lg_entry_eq]
    generalize (lg_sl ([.ref (ar 0), .int (nI i)]) ++ List.replicate (2 - (lg_sl ([.ref (ar 0), .int (nI i)])).length) Slot.unset).toArray = ls at hl ⊢
    have hin5 : ∀ w ∈ wsX50, w ∈ wsX5_request := by decide +kernel
    have hn1 := hsq.n.1
    have hn16 := hsq.n.2
    have hI : q_requestI n k σ (nI i) = q_request n k σ i := by rw [q_requestI, if_pos hnx, nI_clamp (by omega)]
    refine lv_aload_n hx hb dX5_request_0 rfl (lv_at hl 0 rfl) ?_
    refine lv_iload_n hx hb dX5_request_1 rfl (lv_at hl 1 rfl) ?_
    refine qc_i (va_runV (As := [.int (nI i)]) (rest := []) ⟨hx, hb, hml, hown, hts⟩ (c_X5_isNode l dd ga n k ar σ hsq hL (nI i)) (cwV 1 hts gX5_request_X5_isNode rfl rfl rfl (by decide +kernel) ⟨Nat.le_of_ble_eq_true rfl, Nat.le_of_ble_eq_true rfl⟩) (qpreV hK (⟨ρ, hRp, hW⟩) hW.self rfl) rfl rfl hl.1 rfl (lv_room (Nat.le_of_ble_eq_true rfl)) dX5_request_2 ⟨Nat.zero_le _, Nat.zero_le _⟩) hS (fun q h => h.elim) (fun v2 H locs hp9 hz9 ho9 hS => ?_)
    have ev2 : v2 = _ := hp9
    have hW := hW.same (fun q => ho9 q (fun h => h))
    refine lv_if_ne (tgt := 10) hx hb dX5_request_5 (by decide) (fun c_5 => ?_) (fun c_5 => absurd c_5 (by rw [ev2, if_pos hnx]; decide))
    refine lv_aload_n hx hb dX5_request_10 rfl (lv_at hl 0 rfl) ?_
    refine qr_get (ci := 5) (C := RX5) (T := TX5) (N := 19) hx hb hts hin5 hown hK hW.self rfl 3 (by decide) (hts (.fieldLink RX5 13 "QuorumLockModel" "state" "[I") (by decide +kernel)) rfl dX5_request_11 ?_
    refine lv_iload_n hx hb dX5_request_14 rfl (lv_at hl 1 rfl) ?_
    refine qr_iald (v := (σ.1 1 i)) hx hb hK hW.a2 i (by omega) (by omega) rfl (hRp.t 1 i (by decide) hi) dX5_request_15 ?_
    refine lv_if_eq (tgt := 21) hx hb dX5_request_16 (by decide) (fun c_16 => ?_) (fun c_16 => ?_)
    · refine lv_aload_n hx hb dX5_request_21 rfl (lv_at hl 0 rfl) ?_
      refine qr_get (ci := 5) (C := RX5) (T := TX5) (N := 19) hx hb hts hin5 hown hK hW.self rfl 2 (by decide) (hts (.fieldLink RX5 7 "QuorumLockModel" "clock" "[I") (by decide +kernel)) rfl dX5_request_22 ?_
      refine lv_iload_n hx hb dX5_request_25 rfl (lv_at hl 1 rfl) ?_
      refine lv_dup2_11 hx hb dX5_request_26 rfl rfl ?_
      refine qr_iald (v := (σ.1 0 i)) hx hb hK hW.a1 i (by omega) (by omega) rfl (hRp.t 0 i (by decide) hi) dX5_request_27 ?_
      refine lv_iconst (v := 1) hx hb dX5_request_28 (by decide) ?_
      refine lv_iadd hx hb dX5_request_29 ?_
      refine qr_iast hx hb hK hW.a1 hS (⟨1, by decide, rfl⟩) i (by omega) (by omega) rfl dX5_request_30 (fun H locs hz9 ho9 hat9 hS => ?_)
      have hW := hW.put hL 1 i ((σ.1 0 i) + 1) (by decide) (by decide) ho9 hat9
      refine lv_aload_n hx hb dX5_request_31 rfl (lv_at hl 0 rfl) ?_
      refine qr_get (ci := 5) (C := RX5) (T := TX5) (N := 19) hx hb hts hin5 hown hK hW.self rfl 4 (by decide) (hts (.fieldLink RX5 16 "QuorumLockModel" "time" "[I") (by decide +kernel)) rfl dX5_request_32 ?_
      refine lv_iload_n hx hb dX5_request_35 rfl (lv_at hl 1 rfl) ?_
      refine lv_aload_n hx hb dX5_request_36 rfl (lv_at hl 0 rfl) ?_
      refine qr_get (ci := 5) (C := RX5) (T := TX5) (N := 19) hx hb hts hin5 hown hK hW.self rfl 2 (by decide) (hts (.fieldLink RX5 7 "QuorumLockModel" "clock" "[I") (by decide +kernel)) rfl dX5_request_37 ?_
      refine lv_iload_n hx hb dX5_request_40 rfl (lv_at hl 1 rfl) ?_
      refine qr_iald (v := (σ.1 0 i + 1)) hx hb hK hW.a1 i (by omega) (by omega) rfl q2_s dX5_request_41 ?_
      refine qr_iast hx hb hK hW.a3 hS (⟨3, by decide, rfl⟩) i (by omega) (by omega) rfl dX5_request_42 (fun H locs hz9 ho9 hat9 hS => ?_)
      have hW := hW.put hL 3 i (σ.1 0 i + 1) (by decide) (by decide) ho9 hat9
      refine lv_aload_n hx hb dX5_request_43 rfl (lv_at hl 0 rfl) ?_
      refine qr_get (ci := 5) (C := RX5) (T := TX5) (N := 19) hx hb hts hin5 hown hK hW.self rfl 3 (by decide) (hts (.fieldLink RX5 13 "QuorumLockModel" "state" "[I") (by decide +kernel)) rfl dX5_request_44 ?_
      refine lv_iload_n hx hb dX5_request_47 rfl (lv_at hl 1 rfl) ?_
      refine lv_iconst (v := 1) hx hb dX5_request_48 (by decide) ?_
      refine qr_iast hx hb hK hW.a2 hS (⟨2, by decide, rfl⟩) i (by omega) (by omega) rfl dX5_request_49 (fun H locs hz9 ho9 hat9 hS => ?_)
      have hW := hW.put hL 2 i 1 (by decide) (by decide) ho9 hat9
      refine lv_aload_n hx hb dX5_request_50 rfl (lv_at hl 0 rfl) ?_
      refine lv_iload_n hx hb dX5_request_51 rfl (lv_at hl 1 rfl) ?_
      refine qc_v (va_runV (As := [.int (nI i)]) (rest := []) ⟨hx, hb, hml, hown, hts⟩ (c_X5_empty l dd ga n k ar (s_tb (s_tb (s_tb σ 0 i (σ.1 0 i + 1)) 1 i 1) 2 i (σ.1 0 i + 1)) hsq hL i hi) (cwV 1 hts gX5_request_X5_empty rfl rfl rfl (by decide +kernel) ⟨Nat.le_of_ble_eq_true rfl, Nat.le_of_ble_eq_true rfl⟩) (qpreV hK (by rw [q_tb_comm _ i 1 (σ.1 0 i + 1) (by decide)]; exact ⟨_, ((hRp.stb 0 i (σ.1 0 i + 1) (by decide)).stb 2 i (σ.1 0 i + 1) (by decide)).stb 1 i 1 (by decide), hW⟩) hW.self rfl) rfl rfl hl.1 rfl (lv_room (Nat.le_of_ble_eq_true rfl)) dX5_request_52 ⟨Nat.zero_le _, Nat.zero_le _⟩) hS (fun q h => h) (fun H locs hp9 hz9 ho9 hS => ?_)
      obtain ⟨ρ, hRp, hW⟩ := hp9
      refine lv_aload_n hx hb dX5_request_55 rfl (lv_at hl 0 rfl) ?_
      refine lv_iload_n hx hb dX5_request_56 rfl (lv_at hl 1 rfl) ?_
      refine lv_iconst (v := 1) hx hb dX5_request_57 (by decide) ?_
      refine lv_aload_n hx hb dX5_request_58 rfl (lv_at hl 0 rfl) ?_
      refine qr_get (ci := 5) (C := RX5) (T := TX5) (N := 19) hx hb hts hin5 hown hK hW.self rfl 4 (by decide) (hts (.fieldLink RX5 16 "QuorumLockModel" "time" "[I") (by decide +kernel)) rfl dX5_request_59 ?_
      refine lv_iload_n hx hb dX5_request_62 rfl (lv_at hl 1 rfl) ?_
      refine qr_iald (v := (σ.1 0 i + 1)) hx hb hK hW.a3 i (by omega) (by omega) rfl ((hRp.t 2 i (by decide) hi).trans (by simp [q_empty, s_tb, q2])) dX5_request_63 ?_
      refine qc_v (va_runV (As := [.int (nI i), .int 1, .int (σ.1 0 i + 1)]) (rest := []) ⟨hx, hb, hml, hown, hts⟩ (c_X5_sendAll l dd ga n k ar (q_empty (s_tb (s_tb (s_tb σ 0 i (σ.1 0 i + 1)) 1 i 1) 2 i (σ.1 0 i + 1)) i) hsq hL i hi 1 (σ.1 0 i + 1) (fun t ht => hcap.1 i t hi ht)) (cwV 3 hts gX5_request_X5_sendAll rfl rfl rfl (by decide +kernel) ⟨Nat.le_of_ble_eq_true rfl, Nat.le_of_ble_eq_true rfl⟩) (qpreV hK (⟨ρ, hRp, hW⟩) hW.self rfl) rfl rfl hl.1 rfl (lv_room (Nat.le_of_ble_eq_true rfl)) dX5_request_64 ⟨Nat.zero_le _, Nat.zero_le _⟩) hS (fun q h => h) (fun H locs hp9 hz9 ho9 hS => ?_)
      have hfin := hp9
      refine lv_iconst (v := 0) hx hb dX5_request_67 (by decide) ?_
      exact q_iret hx hb hr hlocks hS (by rw [hI, q_request, if_pos c_16]; exact ⟨rfl, hfin⟩) dX5_request_68
    · refine lv_iconst (v := 1) hx hb dX5_request_19 (by decide) ?_
      exact q_iret hx hb hr hlocks hS (by rw [hI, q_request, if_neg c_16]; exact ⟨rfl, ρ, hRp, hW⟩) dX5_request_20
  · refine Met.ofW (cc := cX5_request) (maxL := 2) (ret := (some .int)) (by decide) rfl ?_
    intro p e s m args below meth c s₁ B hml hv
    obtain ⟨rfl, ⟨ρ, hRp, hW⟩, hK⟩ := hv
    have hx := B.exec
    have hb := B.bytes
    have hr := B.returns
    have hts := atoms_spec (ws := wsX5_request) B.pre
    have hown : s.vm.findClass RX5 = some m.cls := findClass_of_methodNamed B.named
    have hlocks := B.notSynchronized
    have hS : qS (qAr ar) s.heap s.heap [] := qS.rf
    have hl := lv_entry ([.ref (ar 0), .int x]) (n := 2) (Nat.le_of_ble_eq_true rfl)
    rw [lg_entry_eq]
    generalize (lg_sl ([.ref (ar 0), .int x]) ++ List.replicate (2 - (lg_sl ([.ref (ar 0), .int x])).length) Slot.unset).toArray = ls at hl ⊢
    have hin5 : ∀ w ∈ wsX50, w ∈ wsX5_request := by decide +kernel
    have hn1 := hsq.n.1
    have hn16 := hsq.n.2
    have hI : q_requestI n k σ x = (-1, σ) := by rw [q_requestI, if_neg (by rw [hnx]; decide)]
    refine lv_aload_n hx hb dX5_request_0 rfl (lv_at hl 0 rfl) ?_
    refine lv_iload_n hx hb dX5_request_1 rfl (lv_at hl 1 rfl) ?_
    refine qc_i (va_runV (As := [.int x]) (rest := []) ⟨hx, hb, hml, hown, hts⟩ (c_X5_isNode l dd ga n k ar σ hsq hL x) (cwV 1 hts gX5_request_X5_isNode rfl rfl rfl (by decide +kernel) ⟨Nat.le_of_ble_eq_true rfl, Nat.le_of_ble_eq_true rfl⟩) (qpreV hK (⟨ρ, hRp, hW⟩) hW.self rfl) rfl rfl hl.1 rfl (lv_room (Nat.le_of_ble_eq_true rfl)) dX5_request_2 ⟨Nat.zero_le _, Nat.zero_le _⟩) hS (fun q h => h.elim) (fun v2 H locs hp9 hz9 ho9 hS => ?_)
    have ev2 : v2 = _ := hp9
    have hW := hW.same (fun q => ho9 q (fun h => h))
    refine lv_if_ne (tgt := 10) hx hb dX5_request_5 (by decide) (fun c_5 => absurd (by rw [ev2, if_neg (by rw [hnx]; decide)]) c_5) (fun c_5 => ?_)
    refine lv_iconst (v := (-1)) hx hb dX5_request_8 (by decide) ?_
    exact q_iret hx hb hr hlocks hS (by rw [hI]; exact ⟨rfl, ρ, hRp, hW⟩) dX5_request_9
set_option maxHeartbeats 4000000 in
set_option maxRecDepth 100000 in
/-- X5_enter -/
theorem c_X5_enter (l : Launch) (dd : va_G) (ga : Nat → ClassId) (n k : Nat) (ar : Nat → Nat) (σ : qSt) (hsq : qSq n k) (hL : qLr ar) (x : Int32) : Met l yX5_enter wsX5_enter ({ frames := 1, cells := 0, slots := 0, locals := 23 }) (qPc dd ga [.ref (ar 0), .int x] (fun H => qR dd ga n k ar σ H)) (qQi (fun v H => v = (q_enterI n k σ x).1 ∧ qR dd ga n k ar (q_enterI n k σ x).2 H) (qAr ar)) 0 0 (qAr ar) := by
  rcases q_nodeC hsq.n.2 x with ⟨hnx, i, hi, rfl⟩ | hnx
  · refine Met.ofW (cc := cX5_enter) (maxL := 2) (ret := (some .boolean)) (by decide) rfl ?_
    intro p e s m args below meth c s₁ B hml hv
    obtain ⟨rfl, ⟨ρ, hRp, hW⟩, hK⟩ := hv
    have hx := B.exec
    have hb := B.bytes
    have hr := B.returns
    have hts := atoms_spec (ws := wsX5_enter) B.pre
    have hown : s.vm.findClass RX5 = some m.cls := findClass_of_methodNamed B.named
    have hlocks := B.notSynchronized
    have hS : qS (qAr ar) s.heap s.heap [] := qS.rf
    have hl := lv_entry ([.ref (ar 0), .int (nI i)]) (n := 2) (Nat.le_of_ble_eq_true rfl)
    rw [lg_entry_eq]
    generalize (lg_sl ([.ref (ar 0), .int (nI i)]) ++ List.replicate (2 - (lg_sl ([.ref (ar 0), .int (nI i)])).length) Slot.unset).toArray = ls at hl ⊢
    have hin5 : ∀ w ∈ wsX50, w ∈ wsX5_enter := by decide +kernel
    have hn1 := hsq.n.1
    have hn16 := hsq.n.2
    have hI : q_enterI n k σ (nI i) = q_enter n k σ i := by rw [q_enterI, if_pos hnx, nI_clamp (by omega)]
    refine lv_aload_n hx hb dX5_enter_0 rfl (lv_at hl 0 rfl) ?_
    refine lv_iload_n hx hb dX5_enter_1 rfl (lv_at hl 1 rfl) ?_
    refine qc_i (va_runV (As := [.int (nI i)]) (rest := []) ⟨hx, hb, hml, hown, hts⟩ (c_X5_isNode l dd ga n k ar σ hsq hL (nI i)) (cwV 1 hts gX5_enter_X5_isNode rfl rfl rfl (by decide +kernel) ⟨Nat.le_of_ble_eq_true rfl, Nat.le_of_ble_eq_true rfl⟩) (qpreV hK (⟨ρ, hRp, hW⟩) hW.self rfl) rfl rfl hl.1 rfl (lv_room (Nat.le_of_ble_eq_true rfl)) dX5_enter_2 ⟨Nat.zero_le _, Nat.zero_le _⟩) hS (fun q h => h.elim) (fun v2 H locs hp9 hz9 ho9 hS => ?_)
    have ev2 : v2 = _ := hp9
    have hW := hW.same (fun q => ho9 q (fun h => h))
    refine lv_if_eq (tgt := 32) hx hb dX5_enter_5 (by decide) (fun c_5 => absurd c_5 (by rw [ev2, if_pos hnx]; decide)) (fun c_5 => ?_)
    refine lv_aload_n hx hb dX5_enter_8 rfl (lv_at hl 0 rfl) ?_
    refine qr_get (ci := 5) (C := RX5) (T := TX5) (N := 19) hx hb hts hin5 hown hK hW.self rfl 3 (by decide) (hts (.fieldLink RX5 13 "QuorumLockModel" "state" "[I") (by decide +kernel)) rfl dX5_enter_9 ?_
    refine lv_iload_n hx hb dX5_enter_12 rfl (lv_at hl 1 rfl) ?_
    refine qr_iald (v := (σ.1 1 i)) hx hb hK hW.a2 i (by omega) (by omega) rfl (hRp.t 1 i (by decide) hi) dX5_enter_13 ?_
    refine lv_iconst (v := 1) hx hb dX5_enter_14 (by decide) ?_
    refine lv_icmp_ne (tgt := 32) hx hb dX5_enter_15 (by decide) (fun c_15 => ?_) (fun c_15 => ?_)
    · have hno : ¬ (σ.1 1 i = 1 ∧ σ.1 3 i = q_quo k i n) := fun h => c_15 h.1
      refine lv_iconst (v := 0) hx hb dX5_enter_32 (by decide) ?_
      exact q_zret hx hb hr hlocks rfl hS (by rw [hI, q_enter, if_neg hno]; exact ⟨rfl, ρ, hRp, hW⟩) dX5_enter_33
    · refine lv_aload_n hx hb dX5_enter_18 rfl (lv_at hl 0 rfl) ?_
      refine qr_get (ci := 5) (C := RX5) (T := TX5) (N := 19) hx hb hts hin5 hown hK hW.self rfl 5 (by decide) (hts (.fieldLink RX5 19 "QuorumLockModel" "votes" "[I") (by decide +kernel)) rfl dX5_enter_19 ?_
      refine lv_iload_n hx hb dX5_enter_22 rfl (lv_at hl 1 rfl) ?_
      refine qr_iald (v := (σ.1 3 i)) hx hb hK hW.a4 i (by omega) (by omega) rfl (hRp.t 3 i (by decide) hi) dX5_enter_23 ?_
      refine lv_aload_n hx hb dX5_enter_24 rfl (lv_at hl 0 rfl) ?_
      refine lv_iload_n hx hb dX5_enter_25 rfl (lv_at hl 1 rfl) ?_
      refine qc_i (va_runV (As := [.int (nI i)]) (rest := [.int (σ.1 3 i)]) ⟨hx, hb, hml, hown, hts⟩ (c_X5_quorum l dd ga n k ar σ hsq hL i hi) (cwV 1 hts gX5_enter_X5_quorum rfl rfl rfl (by decide +kernel) ⟨Nat.le_of_ble_eq_true rfl, Nat.le_of_ble_eq_true rfl⟩) (qpreV hK (⟨ρ, hRp, hW⟩) hW.self rfl) rfl rfl hl.1 rfl (lv_room (Nat.le_of_ble_eq_true rfl)) dX5_enter_26 ⟨Nat.zero_le _, Nat.zero_le _⟩) hS (fun q h => h.elim) (fun v26 H locs hp9 hz9 ho9 hS => ?_)
      subst hp9
      have hW := hW.same (fun q => ho9 q (fun h => h))
      refine lv_icmp_eq (tgt := 34) hx hb dX5_enter_29 (by decide) (fun c_29 => ?_) (fun c_29 => ?_)
      · refine lv_aload_n hx hb dX5_enter_34 rfl (lv_at hl 0 rfl) ?_
        refine qr_get (ci := 5) (C := RX5) (T := TX5) (N := 19) hx hb hts hin5 hown hK hW.self rfl 3 (by decide) (hts (.fieldLink RX5 13 "QuorumLockModel" "state" "[I") (by decide +kernel)) rfl dX5_enter_35 ?_
        refine lv_iload_n hx hb dX5_enter_38 rfl (lv_at hl 1 rfl) ?_
        refine lv_iconst (v := 2) hx hb dX5_enter_39 (by decide) ?_
        refine qr_iast hx hb hK hW.a2 hS (⟨2, by decide, rfl⟩) i (by omega) (by omega) rfl dX5_enter_40 (fun H locs hz9 ho9 hat9 hS => ?_)
        have hW := hW.put hL 2 i 2 (by decide) (by decide) ho9 hat9
        refine lv_aload_n hx hb dX5_enter_41 rfl (lv_at hl 0 rfl) ?_
        refine lv_dup hx hb dX5_enter_42 rfl ?_
        refine qr_get (ci := 5) (C := RX5) (T := TX5) (N := 19) hx hb hts hin5 hown hK hW.self rfl 18 (by decide) (hts (.fieldLink RX5 69 "QuorumLockModel" "entered" "I") (by decide +kernel)) rfl dX5_enter_43 ?_
        refine lv_iconst (v := 1) hx hb dX5_enter_46 (by decide) ?_
        refine lv_iadd hx hb dX5_enter_47 ?_
        refine qr_put (ci := 5) (C := RX5) (T := TX5) (N := 19) hx hb hts hin5 tyX5 tyX5_ok nmX5 hown hK hW.self hS (⟨0, by decide, rfl⟩) rfl 18 (by decide) (hts (.fieldLink RX5 69 "QuorumLockModel" "entered" "I") (by decide +kernel)) rfl rfl rfl (Nat.le_of_ble_eq_true rfl) dX5_enter_48 (fun H locs hz9 ho9 hat9 hS => ?_)
        have hW := hW.putEn hL ho9 hat9
        refine lv_iconst (v := 1) hx hb dX5_enter_51 (by decide) ?_
        exact q_zret hx hb hr hlocks rfl hS (by rw [hI, q_enter, if_pos ⟨c_15, c_29⟩]; exact ⟨rfl, _, (hRp.stb 1 i 2 (by decide)).en _, hW⟩) dX5_enter_52
      · have hno : ¬ (σ.1 1 i = 1 ∧ σ.1 3 i = q_quo k i n) := fun h => c_29 h.2
        refine lv_iconst (v := 0) hx hb dX5_enter_32 (by decide) ?_
        exact q_zret hx hb hr hlocks rfl hS (by rw [hI, q_enter, if_neg hno]; exact ⟨rfl, ρ, hRp, hW⟩) dX5_enter_33
  · refine Met.ofW (cc := cX5_enter) (maxL := 2) (ret := (some .boolean)) (by decide) rfl ?_
    intro p e s m args below meth c s₁ B hml hv
    obtain ⟨rfl, ⟨ρ, hRp, hW⟩, hK⟩ := hv
    have hx := B.exec
    have hb := B.bytes
    have hr := B.returns
    have hts := atoms_spec (ws := wsX5_enter) B.pre
    have hown : s.vm.findClass RX5 = some m.cls := findClass_of_methodNamed B.named
    have hlocks := B.notSynchronized
    have hS : qS (qAr ar) s.heap s.heap [] := qS.rf
    have hl := lv_entry ([.ref (ar 0), .int x]) (n := 2) (Nat.le_of_ble_eq_true rfl)
    rw [lg_entry_eq]
    generalize (lg_sl ([.ref (ar 0), .int x]) ++ List.replicate (2 - (lg_sl ([.ref (ar 0), .int x])).length) Slot.unset).toArray = ls at hl ⊢
    have hin5 : ∀ w ∈ wsX50, w ∈ wsX5_enter := by decide +kernel
    have hn1 := hsq.n.1
    have hn16 := hsq.n.2
    have hI : q_enterI n k σ x = (0, σ) := by rw [q_enterI, if_neg (by rw [hnx]; decide)]
    refine lv_aload_n hx hb dX5_enter_0 rfl (lv_at hl 0 rfl) ?_
    refine lv_iload_n hx hb dX5_enter_1 rfl (lv_at hl 1 rfl) ?_
    refine qc_i (va_runV (As := [.int x]) (rest := []) ⟨hx, hb, hml, hown, hts⟩ (c_X5_isNode l dd ga n k ar σ hsq hL x) (cwV 1 hts gX5_enter_X5_isNode rfl rfl rfl (by decide +kernel) ⟨Nat.le_of_ble_eq_true rfl, Nat.le_of_ble_eq_true rfl⟩) (qpreV hK (⟨ρ, hRp, hW⟩) hW.self rfl) rfl rfl hl.1 rfl (lv_room (Nat.le_of_ble_eq_true rfl)) dX5_enter_2 ⟨Nat.zero_le _, Nat.zero_le _⟩) hS (fun q h => h.elim) (fun v2 H locs hp9 hz9 ho9 hS => ?_)
    have ev2 : v2 = _ := hp9
    have hW := hW.same (fun q => ho9 q (fun h => h))
    refine lv_if_eq (tgt := 32) hx hb dX5_enter_5 (by decide) (fun c_5 => ?_) (fun c_5 => absurd (by rw [ev2, if_neg (by rw [hnx]; decide)]) c_5)
    refine lv_iconst (v := 0) hx hb dX5_enter_32 (by decide) ?_
    exact q_zret hx hb hr hlocks rfl hS (by rw [hI]; exact ⟨rfl, ρ, hRp, hW⟩) dX5_enter_33
set_option maxHeartbeats 4000000 in
set_option maxRecDepth 100000 in
/-- X5_release -/
theorem c_X5_release (l : Launch) (dd : va_G) (ga : Nat → ClassId) (n k : Nat) (ar : Nat → Nat) (σ : qSt) (hsq : qSq n k) (hL : qLr ar) (x : Int32) (hcap : qCap n k σ) : Met l yX5_release wsX5_release ({ frames := 2, cells := 0, slots := 0, locals := 50 }) (qPc dd ga [.ref (ar 0), .int x] (fun H => qR dd ga n k ar σ H)) (qQi (fun v H => v = (q_releaseI n k σ x).1 ∧ qR dd ga n k ar (q_releaseI n k σ x).2 H) (qAr ar)) 0 0 (qAr ar) := by
  rcases q_nodeC hsq.n.2 x with ⟨hnx, i, hi, rfl⟩ | hnx
  · refine Met.ofW (cc := cX5_release) (maxL := 3) (ret := (some .int)) (by decide) rfl ?_
    intro p e s m args below meth c s₁ B hml hv
    obtain ⟨rfl, ⟨ρ, hRp, hW⟩, hK⟩ := hv
    have hx := B.exec
    have hb := B.bytes
    have hr := B.returns
    have hts := atoms_spec (ws := wsX5_release) B.pre
    have hown : s.vm.findClass RX5 = some m.cls := findClass_of_methodNamed B.named
    have hlocks := B.notSynchronized
    have hS : qS (qAr ar) s.heap s.heap [] := qS.rf
    have hl := lv_entry ([.ref (ar 0), .int (nI i)]) (n := 3) (Nat.le_of_ble_eq_true rfl)
    rw [lg_entry_eq]
    generalize (lg_sl ([.ref (ar 0), .int (nI i)]) ++ List.replicate (3 - (lg_sl ([.ref (ar 0), .int (nI i)])).length) Slot.unset).toArray = ls at hl ⊢
    have hin5 : ∀ w ∈ wsX50, w ∈ wsX5_release := by decide +kernel
    have hn1 := hsq.n.1
    have hn16 := hsq.n.2
    have hI : q_releaseI n k σ (nI i) = q_release n k σ i := by rw [q_releaseI, if_pos hnx, nI_clamp (by omega)]
    refine lv_aload_n hx hb dX5_release_0 rfl (lv_at hl 0 rfl) ?_
    refine lv_iload_n hx hb dX5_release_1 rfl (lv_at hl 1 rfl) ?_
    refine qc_i (va_runV (As := [.int (nI i)]) (rest := []) ⟨hx, hb, hml, hown, hts⟩ (c_X5_isNode l dd ga n k ar σ hsq hL (nI i)) (cwV 1 hts gX5_release_X5_isNode rfl rfl rfl (by decide +kernel) ⟨Nat.le_of_ble_eq_true rfl, Nat.le_of_ble_eq_true rfl⟩) (qpreV hK (⟨ρ, hRp, hW⟩) hW.self rfl) rfl rfl hl.1 rfl (lv_room (Nat.le_of_ble_eq_true rfl)) dX5_release_2 ⟨Nat.zero_le _, Nat.zero_le _⟩) hS (fun q h => h.elim) (fun v2 H locs hp9 hz9 ho9 hS => ?_)
    have ev2 : v2 = _ := hp9
    have hW := hW.same (fun q => ho9 q (fun h => h))
    refine lv_if_ne (tgt := 10) hx hb dX5_release_5 (by decide) (fun c_5 => ?_) (fun c_5 => absurd c_5 (by rw [ev2, if_pos hnx]; decide))
    refine lv_aload_n hx hb dX5_release_10 rfl (lv_at hl 0 rfl) ?_
    refine qr_get (ci := 5) (C := RX5) (T := TX5) (N := 19) hx hb hts hin5 hown hK hW.self rfl 3 (by decide) (hts (.fieldLink RX5 13 "QuorumLockModel" "state" "[I") (by decide +kernel)) rfl dX5_release_11 ?_
    refine lv_iload_n hx hb dX5_release_14 rfl (lv_at hl 1 rfl) ?_
    refine qr_iald (v := (σ.1 1 i)) hx hb hK hW.a2 i (by omega) (by omega) rfl (hRp.t 1 i (by decide) hi) dX5_release_15 ?_
    refine lv_iconst (v := 2) hx hb dX5_release_16 (by decide) ?_
    refine lv_icmp_eq (tgt := 22) hx hb dX5_release_17 (by decide) (fun c_17 => ?_) (fun c_17 => ?_)
    · refine lv_aload_n hx hb dX5_release_22 rfl (lv_at hl 0 rfl) ?_
      refine qr_get (ci := 5) (C := RX5) (T := TX5) (N := 19) hx hb hts hin5 hown hK hW.self rfl 4 (by decide) (hts (.fieldLink RX5 16 "QuorumLockModel" "time" "[I") (by decide +kernel)) rfl dX5_release_23 ?_
      refine lv_iload_n hx hb dX5_release_26 rfl (lv_at hl 1 rfl) ?_
      refine qr_iald (v := (σ.1 2 i)) hx hb hK hW.a3 i (by omega) (by omega) rfl (hRp.t 2 i (by decide) hi) dX5_release_27 ?_
      refine lv_istore_n (lv' := [(2, .int (σ.1 2 i)), (0, .ref (ar 0)), (1, .int (nI i))]) hx hb dX5_release_28 rfl hl (by decide) rfl (fun ls hl => ?_)
      refine lv_aload_n hx hb dX5_release_29 rfl (lv_at hl 1 rfl) ?_
      refine qr_get (ci := 5) (C := RX5) (T := TX5) (N := 19) hx hb hts hin5 hown hK hW.self rfl 3 (by decide) (hts (.fieldLink RX5 13 "QuorumLockModel" "state" "[I") (by decide +kernel)) rfl dX5_release_30 ?_
      refine lv_iload_n hx hb dX5_release_33 rfl (lv_at hl 2 rfl) ?_
      refine lv_iconst (v := 0) hx hb dX5_release_34 (by decide) ?_
      refine qr_iast hx hb hK hW.a2 hS (⟨2, by decide, rfl⟩) i (by omega) (by omega) rfl dX5_release_35 (fun H locs hz9 ho9 hat9 hS => ?_)
      have hW := hW.put hL 2 i 0 (by decide) (by decide) ho9 hat9
      refine lv_aload_n hx hb dX5_release_36 rfl (lv_at hl 1 rfl) ?_
      refine qr_get (ci := 5) (C := RX5) (T := TX5) (N := 19) hx hb hts hin5 hown hK hW.self rfl 4 (by decide) (hts (.fieldLink RX5 16 "QuorumLockModel" "time" "[I") (by decide +kernel)) rfl dX5_release_37 ?_
      refine lv_iload_n hx hb dX5_release_40 rfl (lv_at hl 2 rfl) ?_
      refine lv_iconst (v := 0) hx hb dX5_release_41 (by decide) ?_
      refine qr_iast hx hb hK hW.a3 hS (⟨3, by decide, rfl⟩) i (by omega) (by omega) rfl dX5_release_42 (fun H locs hz9 ho9 hat9 hS => ?_)
      have hW := hW.put hL 3 i 0 (by decide) (by decide) ho9 hat9
      refine lv_aload_n hx hb dX5_release_43 rfl (lv_at hl 1 rfl) ?_
      refine lv_iload_n hx hb dX5_release_44 rfl (lv_at hl 2 rfl) ?_
      refine qc_v (va_runV (As := [.int (nI i)]) (rest := []) ⟨hx, hb, hml, hown, hts⟩ (c_X5_empty l dd ga n k ar (s_tb (s_tb σ 1 i 0) 2 i 0) hsq hL i hi) (cwV 1 hts gX5_release_X5_empty rfl rfl rfl (by decide +kernel) ⟨Nat.le_of_ble_eq_true rfl, Nat.le_of_ble_eq_true rfl⟩) (qpreV hK (⟨_, (hRp.stb 1 i 0 (by decide)).stb 2 i 0 (by decide), hW⟩) hW.self rfl) rfl rfl hl.1 rfl (lv_room (Nat.le_of_ble_eq_true rfl)) dX5_release_45 ⟨Nat.zero_le _, Nat.zero_le _⟩) hS (fun q h => h) (fun H locs hp9 hz9 ho9 hS => ?_)
      obtain ⟨ρ, hRp, hW⟩ := hp9
      refine lv_aload_n hx hb dX5_release_48 rfl (lv_at hl 1 rfl) ?_
      refine lv_iload_n hx hb dX5_release_49 rfl (lv_at hl 2 rfl) ?_
      refine lv_iconst (v := 3) hx hb dX5_release_50 (by decide) ?_
      refine lv_iload_n hx hb dX5_release_51 rfl (lv_at hl 0 rfl) ?_
      refine qc_v (va_runV (As := [.int (nI i), .int 3, .int (σ.1 2 i)]) (rest := []) ⟨hx, hb, hml, hown, hts⟩ (c_X5_sendAll l dd ga n k ar (q_empty (s_tb (s_tb σ 1 i 0) 2 i 0) i) hsq hL i hi 3 (σ.1 2 i) (fun t ht => hcap.1 i t hi ht)) (cwV 3 hts gX5_release_X5_sendAll rfl rfl rfl (by decide +kernel) ⟨Nat.le_of_ble_eq_true rfl, Nat.le_of_ble_eq_true rfl⟩) (qpreV hK (⟨ρ, hRp, hW⟩) hW.self rfl) rfl rfl hl.1 rfl (lv_room (Nat.le_of_ble_eq_true rfl)) dX5_release_52 ⟨Nat.zero_le _, Nat.zero_le _⟩) hS (fun q h => h) (fun H locs hp9 hz9 ho9 hS => ?_)
      have hfin := hp9
      refine lv_iconst (v := 0) hx hb dX5_release_55 (by decide) ?_
      exact q_iret hx hb hr hlocks hS (by rw [hI, q_release, if_pos c_17]; exact ⟨rfl, hfin⟩) dX5_release_56
    · refine lv_iconst (v := 1) hx hb dX5_release_20 (by decide) ?_
      exact q_iret hx hb hr hlocks hS (by rw [hI, q_release, if_neg c_17]; exact ⟨rfl, ρ, hRp, hW⟩) dX5_release_21
  · refine Met.ofW (cc := cX5_release) (maxL := 3) (ret := (some .int)) (by decide) rfl ?_
    intro p e s m args below meth c s₁ B hml hv
    obtain ⟨rfl, ⟨ρ, hRp, hW⟩, hK⟩ := hv
    have hx := B.exec
    have hb := B.bytes
    have hr := B.returns
    have hts := atoms_spec (ws := wsX5_release) B.pre
    have hown : s.vm.findClass RX5 = some m.cls := findClass_of_methodNamed B.named
    have hlocks := B.notSynchronized
    have hS : qS (qAr ar) s.heap s.heap [] := qS.rf
    have hl := lv_entry ([.ref (ar 0), .int x]) (n := 3) (Nat.le_of_ble_eq_true rfl)
    rw [lg_entry_eq]
    generalize (lg_sl ([.ref (ar 0), .int x]) ++ List.replicate (3 - (lg_sl ([.ref (ar 0), .int x])).length) Slot.unset).toArray = ls at hl ⊢
    have hin5 : ∀ w ∈ wsX50, w ∈ wsX5_release := by decide +kernel
    have hn1 := hsq.n.1
    have hn16 := hsq.n.2
    have hI : q_releaseI n k σ x = (-1, σ) := by rw [q_releaseI, if_neg (by rw [hnx]; decide)]
    refine lv_aload_n hx hb dX5_release_0 rfl (lv_at hl 0 rfl) ?_
    refine lv_iload_n hx hb dX5_release_1 rfl (lv_at hl 1 rfl) ?_
    refine qc_i (va_runV (As := [.int x]) (rest := []) ⟨hx, hb, hml, hown, hts⟩ (c_X5_isNode l dd ga n k ar σ hsq hL x) (cwV 1 hts gX5_release_X5_isNode rfl rfl rfl (by decide +kernel) ⟨Nat.le_of_ble_eq_true rfl, Nat.le_of_ble_eq_true rfl⟩) (qpreV hK (⟨ρ, hRp, hW⟩) hW.self rfl) rfl rfl hl.1 rfl (lv_room (Nat.le_of_ble_eq_true rfl)) dX5_release_2 ⟨Nat.zero_le _, Nat.zero_le _⟩) hS (fun q h => h.elim) (fun v2 H locs hp9 hz9 ho9 hS => ?_)
    have ev2 : v2 = _ := hp9
    have hW := hW.same (fun q => ho9 q (fun h => h))
    refine lv_if_ne (tgt := 10) hx hb dX5_release_5 (by decide) (fun c_5 => absurd (by rw [ev2, if_neg (by rw [hnx]; decide)]) c_5) (fun c_5 => ?_)
    refine lv_iconst (v := (-1)) hx hb dX5_release_8 (by decide) ?_
    exact q_iret hx hb hr hlocks hS (by rw [hI]; exact ⟨rfl, ρ, hRp, hW⟩) dX5_release_9
set_option maxHeartbeats 4000000 in
set_option maxRecDepth 100000 in
/-- X5_lockedFor -/
theorem c_X5_lockedFor (l : Launch) (dd : va_G) (ga : Nat → ClassId) (n k : Nat) (ar : Nat → Nat) (σ : qSt) (hsq : qSq n k) (hL : qLr ar) (x : Int32) : Met l yX5_lockedFor wsX5_lockedFor ({ frames := 1, cells := 0, slots := 0, locals := 21 }) (qPc dd ga [.ref (ar 0), .int x] (fun H => qR dd ga n k ar σ H)) (qQi (fun v H => v = q_lockedI n σ x ∧ qR dd ga n k ar σ H) (qAr ar)) 0 0 (qAr ar) := by
  rcases q_nodeC hsq.n.2 x with ⟨hnx, i, hi, rfl⟩ | hnx
  · refine Met.ofW (cc := cX5_lockedFor) (maxL := 2) (ret := (some .int)) (by decide) rfl ?_
    intro p e s m args below meth c s₁ B hml hv
    obtain ⟨rfl, ⟨ρ, hRp, hW⟩, hK⟩ := hv
    have hx := B.exec
    have hb := B.bytes
    have hr := B.returns
    have hts := atoms_spec (ws := wsX5_lockedFor) B.pre
    have hown : s.vm.findClass RX5 = some m.cls := findClass_of_methodNamed B.named
    have hlocks := B.notSynchronized
    have hS : qS (qAr ar) s.heap s.heap [] := qS.rf
    have hl := lv_entry ([.ref (ar 0), .int (nI i)]) (n := 2) (Nat.le_of_ble_eq_true rfl)
    rw [lg_entry_eq]
    generalize (lg_sl ([.ref (ar 0), .int (nI i)]) ++ List.replicate (2 - (lg_sl ([.ref (ar 0), .int (nI i)])).length) Slot.unset).toArray = ls at hl ⊢
    have hin5 : ∀ w ∈ wsX50, w ∈ wsX5_lockedFor := by decide +kernel
    have hn1 := hsq.n.1
    have hn16 := hsq.n.2
    have hI : q_lockedI n σ (nI i) = q_on (σ.2.1 i) := by rw [q_lockedI, if_pos hnx, nI_clamp (by omega)]
    refine lv_aload_n hx hb dX5_lockedFor_0 rfl (lv_at hl 0 rfl) ?_
    refine lv_iload_n hx hb dX5_lockedFor_1 rfl (lv_at hl 1 rfl) ?_
    refine qc_i (va_runV (As := [.int (nI i)]) (rest := []) ⟨hx, hb, hml, hown, hts⟩ (c_X5_isNode l dd ga n k ar σ hsq hL (nI i)) (cwV 1 hts gX5_lockedFor_X5_isNode rfl rfl rfl (by decide +kernel) ⟨Nat.le_of_ble_eq_true rfl, Nat.le_of_ble_eq_true rfl⟩) (qpreV hK (⟨ρ, hRp, hW⟩) hW.self rfl) rfl rfl hl.1 rfl (lv_room (Nat.le_of_ble_eq_true rfl)) dX5_lockedFor_2 ⟨Nat.zero_le _, Nat.zero_le _⟩) hS (fun q h => h.elim) (fun v2 H locs hp9 hz9 ho9 hS => ?_)
    have ev2 : v2 = _ := hp9
    have hW := hW.same (fun q => ho9 q (fun h => h))
    refine lv_if_eq (tgt := 17) hx hb dX5_lockedFor_5 (by decide) (fun c_5 => absurd c_5 (by rw [ev2, if_pos hnx]; decide)) (fun c_5 => ?_)
    refine lv_aload_n hx hb dX5_lockedFor_8 rfl (lv_at hl 0 rfl) ?_
    refine qr_get (ci := 5) (C := RX5) (T := TX5) (N := 19) hx hb hts hin5 hown hK hW.self rfl 8 (by decide) (hts (.fieldLink RX5 28 "QuorumLockModel" "lent" "[I") (by decide +kernel)) rfl dX5_lockedFor_9 ?_
    refine lv_iload_n hx hb dX5_lockedFor_12 rfl (lv_at hl 1 rfl) ?_
    refine qr_iald (v := (q_on (σ.2.1 i))) hx hb hK hW.a7 i (by omega) (by omega) rfl (hRp.2.1 i hi).1 dX5_lockedFor_13 ?_
    refine lv_goto (tgt := 18) hx hb dX5_lockedFor_14 (by decide) ?_
    exact q_iret hx hb hr hlocks hS (⟨hI.symm, ρ, hRp, hW⟩) dX5_lockedFor_18
  · refine Met.ofW (cc := cX5_lockedFor) (maxL := 2) (ret := (some .int)) (by decide) rfl ?_
    intro p e s m args below meth c s₁ B hml hv
    obtain ⟨rfl, ⟨ρ, hRp, hW⟩, hK⟩ := hv
    have hx := B.exec
    have hb := B.bytes
    have hr := B.returns
    have hts := atoms_spec (ws := wsX5_lockedFor) B.pre
    have hown : s.vm.findClass RX5 = some m.cls := findClass_of_methodNamed B.named
    have hlocks := B.notSynchronized
    have hS : qS (qAr ar) s.heap s.heap [] := qS.rf
    have hl := lv_entry ([.ref (ar 0), .int x]) (n := 2) (Nat.le_of_ble_eq_true rfl)
    rw [lg_entry_eq]
    generalize (lg_sl ([.ref (ar 0), .int x]) ++ List.replicate (2 - (lg_sl ([.ref (ar 0), .int x])).length) Slot.unset).toArray = ls at hl ⊢
    have hin5 : ∀ w ∈ wsX50, w ∈ wsX5_lockedFor := by decide +kernel
    have hn1 := hsq.n.1
    have hn16 := hsq.n.2
    have hI : q_lockedI n σ x = -1 := by rw [q_lockedI, if_neg (by rw [hnx]; decide)]
    refine lv_aload_n hx hb dX5_lockedFor_0 rfl (lv_at hl 0 rfl) ?_
    refine lv_iload_n hx hb dX5_lockedFor_1 rfl (lv_at hl 1 rfl) ?_
    refine qc_i (va_runV (As := [.int x]) (rest := []) ⟨hx, hb, hml, hown, hts⟩ (c_X5_isNode l dd ga n k ar σ hsq hL x) (cwV 1 hts gX5_lockedFor_X5_isNode rfl rfl rfl (by decide +kernel) ⟨Nat.le_of_ble_eq_true rfl, Nat.le_of_ble_eq_true rfl⟩) (qpreV hK (⟨ρ, hRp, hW⟩) hW.self rfl) rfl rfl hl.1 rfl (lv_room (Nat.le_of_ble_eq_true rfl)) dX5_lockedFor_2 ⟨Nat.zero_le _, Nat.zero_le _⟩) hS (fun q h => h.elim) (fun v2 H locs hp9 hz9 ho9 hS => ?_)
    have ev2 : v2 = _ := hp9
    have hW := hW.same (fun q => ho9 q (fun h => h))
    refine lv_if_eq (tgt := 17) hx hb dX5_lockedFor_5 (by decide) (fun c_5 => ?_) (fun c_5 => absurd (by rw [ev2, if_neg (by rw [hnx]; decide)]) c_5)
    refine lv_iconst (v := (-1)) hx hb dX5_lockedFor_17 (by decide) ?_
    exact q_iret hx hb hr hlocks hS (⟨hI.symm, ρ, hRp, hW⟩) dX5_lockedFor_18
def q_votesJ (n : Nat) (σ : qSt) (x : Int32) : Int32 := if q_node n x = true then q_cnt (σ.1 3 x.toNatClampNeg) n else -1
set_option maxHeartbeats 4000000 in
set_option maxRecDepth 100000 in
/-- X5_votesOf -/
theorem c_X5_votesOf (l : Launch) (dd : va_G) (ga : Nat → ClassId) (n k : Nat) (ar : Nat → Nat) (σ : qSt) (hsq : qSq n k) (hL : qLr ar) (x : Int32) : Met l yX5_votesOf wsX5_votesOf ({ frames := 1, cells := 0, slots := 0, locals := 23 }) (qPc dd ga [.ref (ar 0), .int x] (fun H => qR dd ga n k ar σ H)) (qQi (fun v H => v = q_votesJ n σ x ∧ qR dd ga n k ar σ H) (qAr ar)) 0 0 (qAr ar) := by
  rcases q_nodeC hsq.n.2 x with ⟨hnx, i, hi, rfl⟩ | hnx
  · refine Met.ofW (cc := cX5_votesOf) (maxL := 2) (ret := (some .int)) (by decide) rfl ?_
    intro p e s m args below meth c s₁ B hml hv
    obtain ⟨rfl, ⟨ρ, hRp, hW⟩, hK⟩ := hv
    have hx := B.exec
    have hb := B.bytes
    have hr := B.returns
    have hts := atoms_spec (ws := wsX5_votesOf) B.pre
    have hown : s.vm.findClass RX5 = some m.cls := findClass_of_methodNamed B.named
    have hlocks := B.notSynchronized
    have hS : qS (qAr ar) s.heap s.heap [] := qS.rf
    have hl := lv_entry ([.ref (ar 0), .int (nI i)]) (n := 2) (Nat.le_of_ble_eq_true rfl)
    rw [lg_entry_eq]
    generalize (lg_sl ([.ref (ar 0), .int (nI i)]) ++ List.replicate (2 - (lg_sl ([.ref (ar 0), .int (nI i)])).length) Slot.unset).toArray = ls at hl ⊢
    have hin5 : ∀ w ∈ wsX50, w ∈ wsX5_votesOf := by decide +kernel
    have hn1 := hsq.n.1
    have hn16 := hsq.n.2
    have hI : q_votesJ n σ (nI i) = q_cnt (σ.1 3 i) n := by rw [q_votesJ, if_pos hnx, nI_clamp (by omega)]
    refine lv_aload_n hx hb dX5_votesOf_0 rfl (lv_at hl 0 rfl) ?_
    refine lv_iload_n hx hb dX5_votesOf_1 rfl (lv_at hl 1 rfl) ?_
    refine qc_i (va_runV (As := [.int (nI i)]) (rest := []) ⟨hx, hb, hml, hown, hts⟩ (c_X5_isNode l dd ga n k ar σ hsq hL (nI i)) (cwV 1 hts gX5_votesOf_X5_isNode rfl rfl rfl (by decide +kernel) ⟨Nat.le_of_ble_eq_true rfl, Nat.le_of_ble_eq_true rfl⟩) (qpreV hK (⟨ρ, hRp, hW⟩) hW.self rfl) rfl rfl hl.1 rfl (lv_room (Nat.le_of_ble_eq_true rfl)) dX5_votesOf_2 ⟨Nat.zero_le _, Nat.zero_le _⟩) hS (fun q h => h.elim) (fun v2 H locs hp9 hz9 ho9 hS => ?_)
    have ev2 : v2 = _ := hp9
    have hW := hW.same (fun q => ho9 q (fun h => h))
    refine lv_if_eq (tgt := 21) hx hb dX5_votesOf_5 (by decide) (fun c_5 => absurd c_5 (by rw [ev2, if_pos hnx]; decide)) (fun c_5 => ?_)
    refine lv_aload_n hx hb dX5_votesOf_8 rfl (lv_at hl 0 rfl) ?_
    refine lv_aload_n hx hb dX5_votesOf_9 rfl (lv_at hl 0 rfl) ?_
    refine qr_get (ci := 5) (C := RX5) (T := TX5) (N := 19) hx hb hts hin5 hown hK hW.self rfl 5 (by decide) (hts (.fieldLink RX5 19 "QuorumLockModel" "votes" "[I") (by decide +kernel)) rfl dX5_votesOf_10 ?_
    refine lv_iload_n hx hb dX5_votesOf_13 rfl (lv_at hl 1 rfl) ?_
    refine qr_iald (v := (σ.1 3 i)) hx hb hK hW.a4 i (by omega) (by omega) rfl (hRp.t 3 i (by decide) hi) dX5_votesOf_14 ?_
    refine qc_i (va_runV (As := [.int (σ.1 3 i)]) (rest := []) ⟨hx, hb, hml, hown, hts⟩ (c_X5_count l dd ga n k ar σ hsq hL (σ.1 3 i)) (cwV 1 hts gX5_votesOf_X5_count rfl rfl rfl (by decide +kernel) ⟨Nat.le_of_ble_eq_true rfl, Nat.le_of_ble_eq_true rfl⟩) (qpreV hK (⟨ρ, hRp, hW⟩) hW.self rfl) rfl rfl hl.1 rfl (lv_room (Nat.le_of_ble_eq_true rfl)) dX5_votesOf_15 ⟨Nat.zero_le _, Nat.zero_le _⟩) hS (fun q h => h.elim) (fun v15 H locs hp9 hz9 ho9 hS => ?_)
    subst hp9
    have hW := hW.same (fun q => ho9 q (fun h => h))
    refine lv_goto (tgt := 22) hx hb dX5_votesOf_18 (by decide) ?_
    exact q_iret hx hb hr hlocks hS (⟨hI.symm, ρ, hRp, hW⟩) dX5_votesOf_22
  · refine Met.ofW (cc := cX5_votesOf) (maxL := 2) (ret := (some .int)) (by decide) rfl ?_
    intro p e s m args below meth c s₁ B hml hv
    obtain ⟨rfl, ⟨ρ, hRp, hW⟩, hK⟩ := hv
    have hx := B.exec
    have hb := B.bytes
    have hr := B.returns
    have hts := atoms_spec (ws := wsX5_votesOf) B.pre
    have hown : s.vm.findClass RX5 = some m.cls := findClass_of_methodNamed B.named
    have hlocks := B.notSynchronized
    have hS : qS (qAr ar) s.heap s.heap [] := qS.rf
    have hl := lv_entry ([.ref (ar 0), .int x]) (n := 2) (Nat.le_of_ble_eq_true rfl)
    rw [lg_entry_eq]
    generalize (lg_sl ([.ref (ar 0), .int x]) ++ List.replicate (2 - (lg_sl ([.ref (ar 0), .int x])).length) Slot.unset).toArray = ls at hl ⊢
    have hin5 : ∀ w ∈ wsX50, w ∈ wsX5_votesOf := by decide +kernel
    have hn1 := hsq.n.1
    have hn16 := hsq.n.2
    have hI : q_votesJ n σ x = -1 := by rw [q_votesJ, if_neg (by rw [hnx]; decide)]
    refine lv_aload_n hx hb dX5_votesOf_0 rfl (lv_at hl 0 rfl) ?_
    refine lv_iload_n hx hb dX5_votesOf_1 rfl (lv_at hl 1 rfl) ?_
    refine qc_i (va_runV (As := [.int x]) (rest := []) ⟨hx, hb, hml, hown, hts⟩ (c_X5_isNode l dd ga n k ar σ hsq hL x) (cwV 1 hts gX5_votesOf_X5_isNode rfl rfl rfl (by decide +kernel) ⟨Nat.le_of_ble_eq_true rfl, Nat.le_of_ble_eq_true rfl⟩) (qpreV hK (⟨ρ, hRp, hW⟩) hW.self rfl) rfl rfl hl.1 rfl (lv_room (Nat.le_of_ble_eq_true rfl)) dX5_votesOf_2 ⟨Nat.zero_le _, Nat.zero_le _⟩) hS (fun q h => h.elim) (fun v2 H locs hp9 hz9 ho9 hS => ?_)
    have ev2 : v2 = _ := hp9
    have hW := hW.same (fun q => ho9 q (fun h => h))
    refine lv_if_eq (tgt := 21) hx hb dX5_votesOf_5 (by decide) (fun c_5 => ?_) (fun c_5 => absurd (by rw [ev2, if_neg (by rw [hnx]; decide)]) c_5)
    refine lv_iconst (v := (-1)) hx hb dX5_votesOf_21 (by decide) ?_
    exact q_iret hx hb hr hlocks hS (⟨hI.symm, ρ, hRp, hW⟩) dX5_votesOf_22
set_option maxHeartbeats 4000000 in
set_option maxRecDepth 100000 in
/-- X5_told -/
theorem c_X5_told (l : Launch) (dd : va_G) (ga : Nat → ClassId) (n k : Nat) (ar : Nat → Nat) (σ : qSt) (hsq : qSq n k) (hL : qLr ar) (x : Int32) (y : Int32) : Met l yX5_told wsX5_told ({ frames := 1, cells := 0, slots := 0, locals := 21 }) (qPc dd ga [.ref (ar 0), .int x, .int y] (fun H => qR dd ga n k ar σ H)) (qQi (fun v H => v = q_toldI n σ x y ∧ qR dd ga n k ar σ H) (qAr ar)) 0 0 (qAr ar) := by
  rcases q_nodeC hsq.n.2 x with ⟨hnx, i, hi, rfl⟩ | hnx
  · refine Met.ofW (cc := cX5_told) (maxL := 3) (ret := (some .int)) (by decide) rfl ?_
    intro p e s m args below meth c s₁ B hml hv
    obtain ⟨rfl, ⟨ρ, hRp, hW⟩, hK⟩ := hv
    have hx := B.exec
    have hb := B.bytes
    have hr := B.returns
    have hts := atoms_spec (ws := wsX5_told) B.pre
    have hown : s.vm.findClass RX5 = some m.cls := findClass_of_methodNamed B.named
    have hlocks := B.notSynchronized
    have hS : qS (qAr ar) s.heap s.heap [] := qS.rf
    have hl := lv_entry ([.ref (ar 0), .int (nI i), .int y]) (n := 3) (Nat.le_of_ble_eq_true rfl)
    rw [lg_entry_eq]
    generalize (lg_sl ([.ref (ar 0), .int (nI i), .int y]) ++ List.replicate (3 - (lg_sl ([.ref (ar 0), .int (nI i), .int y])).length) Slot.unset).toArray = ls at hl ⊢
    have hin5 : ∀ w ∈ wsX50, w ∈ wsX5_told := by decide +kernel
    have hn1 := hsq.n.1
    have hn16 := hsq.n.2
    have hI : q_toldI n σ (nI i) y = q_told σ i y := by rw [q_toldI, if_pos hnx, nI_clamp (by omega)]
    refine lv_aload_n hx hb dX5_told_0 rfl (lv_at hl 0 rfl) ?_
    refine lv_iload_n hx hb dX5_told_1 rfl (lv_at hl 1 rfl) ?_
    refine qc_i (va_runV (As := [.int (nI i)]) (rest := []) ⟨hx, hb, hml, hown, hts⟩ (c_X5_isNode l dd ga n k ar σ hsq hL (nI i)) (cwV 1 hts gX5_told_X5_isNode rfl rfl rfl (by decide +kernel) ⟨Nat.le_of_ble_eq_true rfl, Nat.le_of_ble_eq_true rfl⟩) (qpreV hK (⟨ρ, hRp, hW⟩) hW.self rfl) rfl rfl hl.1 rfl (lv_room (Nat.le_of_ble_eq_true rfl)) dX5_told_2 ⟨Nat.zero_le _, Nat.zero_le _⟩) hS (fun q h => h.elim) (fun v2 H locs hp9 hz9 ho9 hS => ?_)
    have ev2 : v2 = _ := hp9
    have hW := hW.same (fun q => ho9 q (fun h => h))
    refine lv_if_ne (tgt := 10) hx hb dX5_told_5 (by decide) (fun c_5 => ?_) (fun c_5 => absurd c_5 (by rw [ev2, if_pos hnx]; decide))
    refine lv_iload_n hx hb dX5_told_10 rfl (lv_at hl 2 rfl) ?_
    by_cases hk0 : y = 0
    · refine q_ti (y := 0) hk0 ?_
      refine lv_tableIn (tgt := 56) hx hb dX5_told_11 (by decide) (by decide) rfl (by decide) ?_
      have hT := hI
      rw [q_told, if_pos hk0] at hT
      refine lv_aload_n hx hb dX5_told_56 rfl (lv_at hl 0 rfl) ?_
      refine qr_get (ci := 5) (C := RX5) (T := TX5) (N := 19) hx hb hts hin5 hown hK hW.self rfl 3 (by decide) (hts (.fieldLink RX5 13 "QuorumLockModel" "state" "[I") (by decide +kernel)) rfl dX5_told_57 ?_
      refine lv_iload_n hx hb dX5_told_60 rfl (lv_at hl 1 rfl) ?_
      refine qr_iald (v := (σ.1 1 i)) hx hb hK hW.a2 i (by omega) (by omega) rfl (hRp.t 1 i (by decide) hi) dX5_told_61 ?_
      exact q_iret hx hb hr hlocks hS ⟨hT.symm, ρ, hRp, hW⟩ dX5_told_62
    · by_cases hk1 : y = 1
      · refine q_ti (y := 1) hk1 ?_
        refine lv_tableIn (tgt := 63) hx hb dX5_told_11 (by decide) (by decide) rfl (by decide) ?_
        have hT := hI
        rw [q_told, if_neg hk0, if_pos hk1] at hT
        refine lv_aload_n hx hb dX5_told_63 rfl (lv_at hl 0 rfl) ?_
        refine qr_get (ci := 5) (C := RX5) (T := TX5) (N := 19) hx hb hts hin5 hown hK hW.self rfl 2 (by decide) (hts (.fieldLink RX5 7 "QuorumLockModel" "clock" "[I") (by decide +kernel)) rfl dX5_told_64 ?_
        refine lv_iload_n hx hb dX5_told_67 rfl (lv_at hl 1 rfl) ?_
        refine qr_iald (v := (σ.1 0 i)) hx hb hK hW.a1 i (by omega) (by omega) rfl (hRp.t 0 i (by decide) hi) dX5_told_68 ?_
        exact q_iret hx hb hr hlocks hS ⟨hT.symm, ρ, hRp, hW⟩ dX5_told_69
      · by_cases hk2 : y = 2
        · refine q_ti (y := 2) hk2 ?_
          refine lv_tableIn (tgt := 70) hx hb dX5_told_11 (by decide) (by decide) rfl (by decide) ?_
          have hT := hI
          rw [q_told, if_neg hk0, if_neg hk1, if_pos hk2] at hT
          refine lv_aload_n hx hb dX5_told_70 rfl (lv_at hl 0 rfl) ?_
          refine qr_get (ci := 5) (C := RX5) (T := TX5) (N := 19) hx hb hts hin5 hown hK hW.self rfl 4 (by decide) (hts (.fieldLink RX5 16 "QuorumLockModel" "time" "[I") (by decide +kernel)) rfl dX5_told_71 ?_
          refine lv_iload_n hx hb dX5_told_74 rfl (lv_at hl 1 rfl) ?_
          refine qr_iald (v := (σ.1 2 i)) hx hb hK hW.a3 i (by omega) (by omega) rfl (hRp.t 2 i (by decide) hi) dX5_told_75 ?_
          exact q_iret hx hb hr hlocks hS ⟨hT.symm, ρ, hRp, hW⟩ dX5_told_76
        · by_cases hk3 : y = 3
          · refine q_ti (y := 3) hk3 ?_
            refine lv_tableIn (tgt := 77) hx hb dX5_told_11 (by decide) (by decide) rfl (by decide) ?_
            have hT := hI
            rw [q_told, if_neg hk0, if_neg hk1, if_neg hk2, if_pos hk3] at hT
            refine lv_aload_n hx hb dX5_told_77 rfl (lv_at hl 0 rfl) ?_
            refine qr_get (ci := 5) (C := RX5) (T := TX5) (N := 19) hx hb hts hin5 hown hK hW.self rfl 6 (by decide) (hts (.fieldLink RX5 22 "QuorumLockModel" "failures" "[I") (by decide +kernel)) rfl dX5_told_78 ?_
            refine lv_iload_n hx hb dX5_told_81 rfl (lv_at hl 1 rfl) ?_
            refine qr_iald (v := (σ.1 4 i)) hx hb hK hW.a5 i (by omega) (by omega) rfl (hRp.t 4 i (by decide) hi) dX5_told_82 ?_
            exact q_iret hx hb hr hlocks hS ⟨hT.symm, ρ, hRp, hW⟩ dX5_told_83
          · by_cases hk4 : y = 4
            · refine q_ti (y := 4) hk4 ?_
              refine lv_tableIn (tgt := 84) hx hb dX5_told_11 (by decide) (by decide) rfl (by decide) ?_
              have hT := hI
              rw [q_told, if_neg hk0, if_neg hk1, if_neg hk2, if_neg hk3, if_pos hk4] at hT
              refine lv_aload_n hx hb dX5_told_84 rfl (lv_at hl 0 rfl) ?_
              refine qr_get (ci := 5) (C := RX5) (T := TX5) (N := 19) hx hb hts hin5 hown hK hW.self rfl 7 (by decide) (hts (.fieldLink RX5 25 "QuorumLockModel" "inquiries" "[I") (by decide +kernel)) rfl dX5_told_85 ?_
              refine lv_iload_n hx hb dX5_told_88 rfl (lv_at hl 1 rfl) ?_
              refine qr_iald (v := (σ.1 5 i)) hx hb hK hW.a6 i (by omega) (by omega) rfl (hRp.t 5 i (by decide) hi) dX5_told_89 ?_
              exact q_iret hx hb hr hlocks hS ⟨hT.symm, ρ, hRp, hW⟩ dX5_told_90
            · by_cases hk5 : y = 5
              · refine q_ti (y := 5) hk5 ?_
                refine lv_tableIn (tgt := 91) hx hb dX5_told_11 (by decide) (by decide) rfl (by decide) ?_
                have hT := hI
                rw [q_told, if_neg hk0, if_neg hk1, if_neg hk2, if_neg hk3, if_neg hk4, if_pos hk5] at hT
                refine lv_aload_n hx hb dX5_told_91 rfl (lv_at hl 0 rfl) ?_
                refine qr_get (ci := 5) (C := RX5) (T := TX5) (N := 19) hx hb hts hin5 hown hK hW.self rfl 5 (by decide) (hts (.fieldLink RX5 19 "QuorumLockModel" "votes" "[I") (by decide +kernel)) rfl dX5_told_92 ?_
                refine lv_iload_n hx hb dX5_told_95 rfl (lv_at hl 1 rfl) ?_
                refine qr_iald (v := (σ.1 3 i)) hx hb hK hW.a4 i (by omega) (by omega) rfl (hRp.t 3 i (by decide) hi) dX5_told_96 ?_
                exact q_iret hx hb hr hlocks hS ⟨hT.symm, ρ, hRp, hW⟩ dX5_told_97
              · by_cases hk6 : y = 6
                · refine q_ti (y := 6) hk6 ?_
                  refine lv_tableIn (tgt := 98) hx hb dX5_told_11 (by decide) (by decide) rfl (by decide) ?_
                  have hT := hI
                  rw [q_told, if_neg hk0, if_neg hk1, if_neg hk2, if_neg hk3, if_neg hk4, if_neg hk5, if_pos hk6] at hT
                  refine lv_aload_n hx hb dX5_told_98 rfl (lv_at hl 0 rfl) ?_
                  refine qr_get (ci := 5) (C := RX5) (T := TX5) (N := 19) hx hb hts hin5 hown hK hW.self rfl 10 (by decide) (hts (.fieldLink RX5 34 "QuorumLockModel" "inquired" "[Z") (by decide +kernel)) rfl dX5_told_99 ?_
                  refine lv_iload_n hx hb dX5_told_102 rfl (lv_at hl 1 rfl) ?_
                  refine qr_zald (v := (σ.1 6 i)) hx hb hK hW.a9 i (by omega) (by omega) rfl (hRp.t 6 i (by decide) hi) dX5_told_103 ?_
                  refine lv_if_eq (tgt := 111) hx hb dX5_told_104 (by decide) (fun c_104 => ?_) (fun c_104 => ?_)
                  · refine lv_iconst (v := 0) hx hb dX5_told_111 (by decide) ?_
                    exact q_iret hx hb hr hlocks hS ⟨by rw [hT]; first | rw [if_pos c_104] | rw [if_neg c_104], ρ, hRp, hW⟩ dX5_told_112
                  · refine lv_iconst (v := 1) hx hb dX5_told_107 (by decide) ?_
                    refine lv_goto (tgt := 112) hx hb dX5_told_108 (by decide) ?_
                    exact q_iret hx hb hr hlocks hS ⟨by rw [hT]; first | rw [if_pos c_104] | rw [if_neg c_104], ρ, hRp, hW⟩ dX5_told_112
                · by_cases hk7 : y = 7
                  · refine q_ti (y := 7) hk7 ?_
                    refine lv_tableIn (tgt := 113) hx hb dX5_told_11 (by decide) (by decide) rfl (by decide) ?_
                    have hT := hI
                    rw [q_told, if_neg hk0, if_neg hk1, if_neg hk2, if_neg hk3, if_neg hk4, if_neg hk5, if_neg hk6, if_pos hk7] at hT
                    refine lv_aload_n hx hb dX5_told_113 rfl (lv_at hl 0 rfl) ?_
                    refine qr_get (ci := 5) (C := RX5) (T := TX5) (N := 19) hx hb hts hin5 hown hK hW.self rfl 11 (by decide) (hts (.fieldLink RX5 38 "QuorumLockModel" "rows" "[I") (by decide +kernel)) rfl dX5_told_114 ?_
                    refine lv_iload_n hx hb dX5_told_117 rfl (lv_at hl 1 rfl) ?_
                    refine qr_iald (v := (nI (σ.2.2.1 i).length)) hx hb hK hW.a10 i (by omega) (by omega) rfl (hRp.2.2.1 i hi).1 dX5_told_118 ?_
                    exact q_iret hx hb hr hlocks hS ⟨hT.symm, ρ, hRp, hW⟩ dX5_told_119
                  · refine lv_tableOut (tgt := 120) hx hb dX5_told_11 (q_sw8 hk0 hk1 hk2 hk3 hk4 hk5 hk6 hk7) (by decide) ?_
                    have hT := hI
                    rw [q_told, if_neg hk0, if_neg hk1, if_neg hk2, if_neg hk3, if_neg hk4, if_neg hk5, if_neg hk6, if_neg hk7] at hT
                    refine lv_iconst (v := (-1)) hx hb dX5_told_120 (by decide) ?_
                    exact q_iret hx hb hr hlocks hS ⟨hT.symm, ρ, hRp, hW⟩ dX5_told_121
  · refine Met.ofW (cc := cX5_told) (maxL := 3) (ret := (some .int)) (by decide) rfl ?_
    intro p e s m args below meth c s₁ B hml hv
    obtain ⟨rfl, ⟨ρ, hRp, hW⟩, hK⟩ := hv
    have hx := B.exec
    have hb := B.bytes
    have hr := B.returns
    have hts := atoms_spec (ws := wsX5_told) B.pre
    have hown : s.vm.findClass RX5 = some m.cls := findClass_of_methodNamed B.named
    have hlocks := B.notSynchronized
    have hS : qS (qAr ar) s.heap s.heap [] := qS.rf
    have hl := lv_entry ([.ref (ar 0), .int x, .int y]) (n := 3) (Nat.le_of_ble_eq_true rfl)
    rw [lg_entry_eq]
    generalize (lg_sl ([.ref (ar 0), .int x, .int y]) ++ List.replicate (3 - (lg_sl ([.ref (ar 0), .int x, .int y])).length) Slot.unset).toArray = ls at hl ⊢
    have hin5 : ∀ w ∈ wsX50, w ∈ wsX5_told := by decide +kernel
    have hn1 := hsq.n.1
    have hn16 := hsq.n.2
    have hI : q_toldI n σ x y = -1 := by rw [q_toldI, if_neg (by rw [hnx]; decide)]
    refine lv_aload_n hx hb dX5_told_0 rfl (lv_at hl 0 rfl) ?_
    refine lv_iload_n hx hb dX5_told_1 rfl (lv_at hl 1 rfl) ?_
    refine qc_i (va_runV (As := [.int x]) (rest := []) ⟨hx, hb, hml, hown, hts⟩ (c_X5_isNode l dd ga n k ar σ hsq hL x) (cwV 1 hts gX5_told_X5_isNode rfl rfl rfl (by decide +kernel) ⟨Nat.le_of_ble_eq_true rfl, Nat.le_of_ble_eq_true rfl⟩) (qpreV hK (⟨ρ, hRp, hW⟩) hW.self rfl) rfl rfl hl.1 rfl (lv_room (Nat.le_of_ble_eq_true rfl)) dX5_told_2 ⟨Nat.zero_le _, Nat.zero_le _⟩) hS (fun q h => h.elim) (fun v2 H locs hp9 hz9 ho9 hS => ?_)
    have ev2 : v2 = _ := hp9
    have hW := hW.same (fun q => ho9 q (fun h => h))
    refine lv_if_ne (tgt := 10) hx hb dX5_told_5 (by decide) (fun c_5 => absurd (by rw [ev2, if_neg (by rw [hnx]; decide)]) c_5) (fun c_5 => ?_)
    refine lv_iconst (v := (-1)) hx hb dX5_told_8 (by decide) ?_
    exact q_iret hx hb hr hlocks hS (⟨hI.symm, ρ, hRp, hW⟩) dX5_told_9
set_option maxHeartbeats 4000000 in
set_option maxRecDepth 100000 in
/-- X5_waits -/
theorem c_X5_waits (l : Launch) (dd : va_G) (ga : Nat → ClassId) (n k : Nat) (ar : Nat → Nat) (σ : qSt) (hsq : qSq n k) (hL : qLr ar) (x : Int32) (y : Int32) : Met l yX5_waits wsX5_waits ({ frames := 1, cells := 0, slots := 0, locals := 21 }) (qPc dd ga [.ref (ar 0), .int x, .int y] (fun H => qR dd ga n k ar σ H)) (qQi (fun v H => v = q_waitsI n σ x y ∧ qR dd ga n k ar σ H) (qAr ar)) 0 0 (qAr ar) := by
  rcases q_nodeC hsq.n.2 x with ⟨hnx, i, hi, rfl⟩ | hnx
  · refine Met.ofW (cc := cX5_waits) (maxL := 3) (ret := (some .int)) (by decide) rfl ?_
    intro p e s m args below meth c s₁ B hml hv
    obtain ⟨rfl, ⟨ρ, hRp, hW⟩, hK⟩ := hv
    have hx := B.exec
    have hb := B.bytes
    have hr := B.returns
    have hts := atoms_spec (ws := wsX5_waits) B.pre
    have hown : s.vm.findClass RX5 = some m.cls := findClass_of_methodNamed B.named
    have hlocks := B.notSynchronized
    have hS : qS (qAr ar) s.heap s.heap [] := qS.rf
    have hl := lv_entry ([.ref (ar 0), .int (nI i), .int y]) (n := 3) (Nat.le_of_ble_eq_true rfl)
    rw [lg_entry_eq]
    generalize (lg_sl ([.ref (ar 0), .int (nI i), .int y]) ++ List.replicate (3 - (lg_sl ([.ref (ar 0), .int (nI i), .int y])).length) Slot.unset).toArray = ls at hl ⊢
    have hin5 : ∀ w ∈ wsX50, w ∈ wsX5_waits := by decide +kernel
    have hn1 := hsq.n.1
    have hn16 := hsq.n.2
    have hI : q_waitsI n σ (nI i) y = q_at (σ.2.2.1 i) y := by rw [q_waitsI, if_pos hnx, nI_clamp (by omega)]
    have hrb := hRp.2.2.1 i hi
    refine lv_aload_n hx hb dX5_waits_0 rfl (lv_at hl 0 rfl) ?_
    refine lv_iload_n hx hb dX5_waits_1 rfl (lv_at hl 1 rfl) ?_
    refine qc_i (va_runV (As := [.int (nI i)]) (rest := []) ⟨hx, hb, hml, hown, hts⟩ (c_X5_isNode l dd ga n k ar σ hsq hL (nI i)) (cwV 1 hts gX5_waits_X5_isNode rfl rfl rfl (by decide +kernel) ⟨Nat.le_of_ble_eq_true rfl, Nat.le_of_ble_eq_true rfl⟩) (qpreV hK (⟨ρ, hRp, hW⟩) hW.self rfl) rfl rfl hl.1 rfl (lv_room (Nat.le_of_ble_eq_true rfl)) dX5_waits_2 ⟨Nat.zero_le _, Nat.zero_le _⟩) hS (fun q h => h.elim) (fun v2 H locs hp9 hz9 ho9 hS => ?_)
    have ev2 : v2 = _ := hp9
    have hW := hW.same (fun q => ho9 q (fun h => h))
    refine lv_if_eq (tgt := 22) hx hb dX5_waits_5 (by decide) (fun c_5 => absurd c_5 (by rw [ev2, if_pos hnx]; decide)) (fun c_5 => ?_)
    refine lv_iload_n hx hb dX5_waits_8 rfl (lv_at hl 2 rfl) ?_
    refine lv_if_lt (tgt := 22) hx hb dX5_waits_9 (by decide) (fun c_9 => ?_) (fun c_9 => ?_)
    · have hat : y < 0 ∨ nI (σ.2.2.1 i).length ≤ y := Or.inl c_9
      refine lv_iconst (v := (-1)) hx hb dX5_waits_22 (by decide) ?_
      refine lv_goto (tgt := 37) hx hb dX5_waits_23 (by decide) ?_
      exact q_iret hx hb hr hlocks hS ⟨by rw [hI]; unfold q_at; rw [if_pos hat], ρ, hRp, hW⟩ dX5_waits_37
    · refine lv_iload_n hx hb dX5_waits_12 rfl (lv_at hl 2 rfl) ?_
      refine lv_aload_n hx hb dX5_waits_13 rfl (lv_at hl 0 rfl) ?_
      refine qr_get (ci := 5) (C := RX5) (T := TX5) (N := 19) hx hb hts hin5 hown hK hW.self rfl 11 (by decide) (hts (.fieldLink RX5 38 "QuorumLockModel" "rows" "[I") (by decide +kernel)) rfl dX5_waits_14 ?_
      refine lv_iload_n hx hb dX5_waits_17 rfl (lv_at hl 1 rfl) ?_
      refine qr_iald (v := (nI (σ.2.2.1 i).length)) hx hb hK hW.a10 i (by omega) (by omega) rfl hrb.1 dX5_waits_18 ?_
      refine lv_icmp_lt (tgt := 26) hx hb dX5_waits_19 (by decide) (fun c_19 => ?_) (fun c_19 => ?_)
      · have hat : ¬ (y < 0 ∨ nI (σ.2.2.1 i).length ≤ y) := fun h => h.elim c_9 (fun h => absurd c_19 (Int32.not_lt.mpr h))
        obtain ⟨j, hj, ej⟩ : ∃ j : Nat, j < (σ.2.2.1 i).length ∧ y = nI j := by
          rcases pk_ix y (n := (σ.2.2.1 i).length) (by omega) with h | h | h
          · exact absurd (Or.inl h) hat
          · exact absurd (Or.inr h) hat
          · exact h
        refine lv_aload_n hx hb dX5_waits_26 rfl (lv_at hl 0 rfl) ?_
        refine qr_get (ci := 5) (C := RX5) (T := TX5) (N := 19) hx hb hts hin5 hown hK hW.self rfl 12 (by decide) (hts (.fieldLink RX5 41 "QuorumLockModel" "rowNode" "[I") (by decide +kernel)) rfl dX5_waits_27 ?_
        refine lv_bipush (v := nI 64) hx hb dX5_waits_30 (by decide) ?_
        refine lv_iload_n hx hb dX5_waits_32 rfl (lv_at hl 1 rfl) ?_
        refine lv_imul hx hb dX5_waits_33 ?_
        refine q_ti (y := nI (64 * i)) (pk_mul _ _) ?_
        refine lv_iload_n hx hb dX5_waits_34 rfl (lv_at hl 2 rfl) ?_
        refine lv_iadd hx hb dX5_waits_35 ?_
        refine q_ti (y := nI (64 * i + j)) (by rw [ej]; exact nI_add _ _) ?_
        refine qr_iald (v := (nI ((σ.2.2.1 i).getD j (0, 0)).1)) hx hb hK hW.a11 (64 * i + j) (by omega) (by omega) rfl (hrb.2.2 j _ (q_gd hj)).1 dX5_waits_36 ?_
        exact q_iret hx hb hr hlocks hS ⟨by rw [hI]; unfold q_at; rw [if_neg hat, ej, nI_clamp (by omega)], ρ, hRp, hW⟩ dX5_waits_37
      · have hat : y < 0 ∨ nI (σ.2.2.1 i).length ≤ y := Or.inr (Int32.not_lt.mp c_19)
        refine lv_iconst (v := (-1)) hx hb dX5_waits_22 (by decide) ?_
        refine lv_goto (tgt := 37) hx hb dX5_waits_23 (by decide) ?_
        exact q_iret hx hb hr hlocks hS ⟨by rw [hI]; unfold q_at; rw [if_pos hat], ρ, hRp, hW⟩ dX5_waits_37
  · refine Met.ofW (cc := cX5_waits) (maxL := 3) (ret := (some .int)) (by decide) rfl ?_
    intro p e s m args below meth c s₁ B hml hv
    obtain ⟨rfl, ⟨ρ, hRp, hW⟩, hK⟩ := hv
    have hx := B.exec
    have hb := B.bytes
    have hr := B.returns
    have hts := atoms_spec (ws := wsX5_waits) B.pre
    have hown : s.vm.findClass RX5 = some m.cls := findClass_of_methodNamed B.named
    have hlocks := B.notSynchronized
    have hS : qS (qAr ar) s.heap s.heap [] := qS.rf
    have hl := lv_entry ([.ref (ar 0), .int x, .int y]) (n := 3) (Nat.le_of_ble_eq_true rfl)
    rw [lg_entry_eq]
    generalize (lg_sl ([.ref (ar 0), .int x, .int y]) ++ List.replicate (3 - (lg_sl ([.ref (ar 0), .int x, .int y])).length) Slot.unset).toArray = ls at hl ⊢
    have hin5 : ∀ w ∈ wsX50, w ∈ wsX5_waits := by decide +kernel
    have hn1 := hsq.n.1
    have hn16 := hsq.n.2
    have hI : q_waitsI n σ x y = -1 := by rw [q_waitsI, if_neg (by rw [hnx]; decide)]
    refine lv_aload_n hx hb dX5_waits_0 rfl (lv_at hl 0 rfl) ?_
    refine lv_iload_n hx hb dX5_waits_1 rfl (lv_at hl 1 rfl) ?_
    refine qc_i (va_runV (As := [.int x]) (rest := []) ⟨hx, hb, hml, hown, hts⟩ (c_X5_isNode l dd ga n k ar σ hsq hL x) (cwV 1 hts gX5_waits_X5_isNode rfl rfl rfl (by decide +kernel) ⟨Nat.le_of_ble_eq_true rfl, Nat.le_of_ble_eq_true rfl⟩) (qpreV hK (⟨ρ, hRp, hW⟩) hW.self rfl) rfl rfl hl.1 rfl (lv_room (Nat.le_of_ble_eq_true rfl)) dX5_waits_2 ⟨Nat.zero_le _, Nat.zero_le _⟩) hS (fun q h => h.elim) (fun v2 H locs hp9 hz9 ho9 hS => ?_)
    have ev2 : v2 = _ := hp9
    have hW := hW.same (fun q => ho9 q (fun h => h))
    refine lv_if_eq (tgt := 22) hx hb dX5_waits_5 (by decide) (fun c_5 => ?_) (fun c_5 => absurd (by rw [ev2, if_neg (by rw [hnx]; decide)]) c_5)
    refine lv_iconst (v := (-1)) hx hb dX5_waits_22 (by decide) ?_
    refine lv_goto (tgt := 37) hx hb dX5_waits_23 (by decide) ?_
    exact q_iret hx hb hr hlocks hS (⟨hI.symm, ρ, hRp, hW⟩) dX5_waits_37
set_option maxHeartbeats 4000000 in
set_option maxRecDepth 100000 in
/-- X5_entered -/
theorem c_X5_entered (l : Launch) (dd : va_G) (ga : Nat → ClassId) (n k : Nat) (ar : Nat → Nat) (σ : qSt) (hsq : qSq n k) (hL : qLr ar) : Met l yX5_entered wsX5_entered ({ frames := 0, cells := 0, slots := 0, locals := 0 }) (qPc dd ga [.ref (ar 0)] (fun H => qR dd ga n k ar σ H)) (qQi (fun v H => v = σ.2.2.2.2 ∧ qR dd ga n k ar σ H) (qAr ar)) 0 0 (qAr ar) := by
  refine Met.ofW (cc := cX5_entered) (maxL := 1) (ret := (some .int)) (by decide) rfl ?_
  intro p e s m args below meth c s₁ B hml hv
  obtain ⟨rfl, ⟨ρ, hRp, hW⟩, hK⟩ := hv
  have hx := B.exec
  have hb := B.bytes
  have hr := B.returns
  have hts := atoms_spec (ws := wsX5_entered) B.pre
  have hown : s.vm.findClass RX5 = some m.cls := findClass_of_methodNamed B.named
  have hlocks := B.notSynchronized
  have hS : qS (qAr ar) s.heap s.heap [] := qS.rf
  have hl := lv_entry ([.ref (ar 0)]) (n := 1) (Nat.le_of_ble_eq_true rfl)
  rw [lg_entry_eq]
  generalize (lg_sl ([.ref (ar 0)]) ++ List.replicate (1 - (lg_sl ([.ref (ar 0)])).length) Slot.unset).toArray = ls at hl ⊢
  have hin5 : ∀ w ∈ wsX50, w ∈ wsX5_entered := by decide +kernel
  have hn1 := hsq.n.1
  have hn16 := hsq.n.2
  refine lv_aload_n hx hb dX5_entered_0 rfl (lv_at hl 0 rfl) ?_
  refine qr_get (ci := 5) (C := RX5) (T := TX5) (N := 19) hx hb hts hin5 hown hK hW.self rfl 18 (by decide) (hts (.fieldLink RX5 69 "QuorumLockModel" "entered" "I") (by decide +kernel)) rfl dX5_entered_1 ?_
  exact q_iret hx hb hr hlocks hS (⟨rfl, ρ, hRp, hW⟩) dX5_entered_4
set_option maxHeartbeats 4000000 in
set_option maxRecDepth 100000 in
/-- X5_holder -/
theorem c_X5_holder (l : Launch) (dd : va_G) (ga : Nat → ClassId) (n k : Nat) (ar : Nat → Nat) (σ : qSt) (hsq : qSq n k) (hL : qLr ar) : Met l yX5_holder wsX5_holder ({ frames := 0, cells := 0, slots := 0, locals := 0 }) (qPc dd ga [.ref (ar 0)] (fun H => qR dd ga n k ar σ H)) (qQi (fun v H => v = q_holder σ n 0 ∧ qR dd ga n k ar σ H) (qAr ar)) 0 0 (qAr ar) := by
  refine Met.ofW (cc := cX5_holder) (maxL := 2) (ret := (some .int)) (by decide) rfl ?_
  intro p e s m args below meth c s₁ B hml hv
  obtain ⟨rfl, ⟨ρ, hRp, hW⟩, hK⟩ := hv
  have hx := B.exec
  have hb := B.bytes
  have hr := B.returns
  have hts := atoms_spec (ws := wsX5_holder) B.pre
  have hown : s.vm.findClass RX5 = some m.cls := findClass_of_methodNamed B.named
  have hlocks := B.notSynchronized
  have hS : qS (qAr ar) s.heap s.heap [] := qS.rf
  have hl := lv_entry ([.ref (ar 0)]) (n := 2) (Nat.le_of_ble_eq_true rfl)
  rw [lg_entry_eq]
  generalize (lg_sl ([.ref (ar 0)]) ++ List.replicate (2 - (lg_sl ([.ref (ar 0)])).length) Slot.unset).toArray = ls at hl ⊢
  have hin5 : ∀ w ∈ wsX50, w ∈ wsX5_holder := by decide +kernel
  have hn1 := hsq.n.1
  have hn16 := hsq.n.2
  have hloop : ∀ (c9 i9 : Nat) (ls : Array Slot), i9 + c9 = n → q_holder σ n 0 = q_holder σ c9 i9 → lv_has ls 2 [(1, .int (nI i9)), (0, .ref (ar 0))] → W p l e (headSpec wsX5_holder ({ frames := 0, cells := 0, slots := 0, locals := 0 })).room s m (([.ref (ar 0)] : List Value).toArray) below meth c s.heap [] 0 0 (MQ below (qQi (fun v H => v = q_holder σ n 0 ∧ qR dd ga n k ar σ H) (qAr ar)) (([.ref (ar 0)] : List Value).toArray) s 0 0 (qAr ar)) (F0 m 2 ls []) := by
    intro c9
    induction c9 with
    | zero =>
      intro i9 ls hc he hl
      refine lv_iload_n hx hb dX5_holder_2 rfl (lv_at hl 0 rfl) ?_
      refine lv_aload_n hx hb dX5_holder_3 rfl (lv_at hl 1 rfl) ?_
      refine qr_get (ci := 5) (C := RX5) (T := TX5) (N := 19) hx hb hts hin5 hown hK hW.self rfl 1 (by decide) (hts (.fieldLink RX5 63 "QuorumLockModel" "n" "I") (by decide +kernel)) rfl dX5_holder_4 ?_
      refine lv_icmp_ge (tgt := 28) hx hb dX5_holder_7 (by decide) (fun c_7 => ?_) (fun c_7 => absurd (nI_le (show n ≤ i9 by omega) (by omega)) c_7)
      refine lv_iconst (v := (-1)) hx hb dX5_holder_28 (by decide) ?_
      exact q_iret hx hb hr hlocks hS (⟨he.symm, ρ, hRp, hW⟩) dX5_holder_29
    | succ c9 ih =>
      intro i9 ls hc he hl
      have hi9 : i9 < n := by omega
      refine lv_iload_n hx hb dX5_holder_2 rfl (lv_at hl 0 rfl) ?_
      refine lv_aload_n hx hb dX5_holder_3 rfl (lv_at hl 1 rfl) ?_
      refine qr_get (ci := 5) (C := RX5) (T := TX5) (N := 19) hx hb hts hin5 hown hK hW.self rfl 1 (by decide) (hts (.fieldLink RX5 63 "QuorumLockModel" "n" "I") (by decide +kernel)) rfl dX5_holder_4 ?_
      refine lv_icmp_ge (tgt := 28) hx hb dX5_holder_7 (by decide) (fun c_7 => absurd c_7 (nI_ge (by omega) (by omega))) (fun c_7 => ?_)
      refine lv_aload_n hx hb dX5_holder_10 rfl (lv_at hl 1 rfl) ?_
      refine qr_get (ci := 5) (C := RX5) (T := TX5) (N := 19) hx hb hts hin5 hown hK hW.self rfl 3 (by decide) (hts (.fieldLink RX5 13 "QuorumLockModel" "state" "[I") (by decide +kernel)) rfl dX5_holder_11 ?_
      refine lv_iload_n hx hb dX5_holder_14 rfl (lv_at hl 0 rfl) ?_
      refine qr_iald (v := (σ.1 1 i9)) hx hb hK hW.a2 i9 (by omega) (by omega) rfl (hRp.t 1 i9 (by decide) hi9) dX5_holder_15 ?_
      refine lv_iconst (v := 2) hx hb dX5_holder_16 (by decide) ?_
      refine lv_icmp_ne (tgt := 22) hx hb dX5_holder_17 (by decide) (fun c_17 => ?_) (fun c_17 => ?_)
      · refine lv_iinc (v := nI (i9 + 1)) (lv' := [(1, .int (nI (i9 + 1))), (0, .ref (ar 0))]) hx hb dX5_holder_22 hl (k := 0) rfl (nI_1 _) (by decide) rfl (fun ls hl => ?_)
        refine lv_goto (tgt := 2) hx hb dX5_holder_25 (by decide) ?_
        exact ih (i9 + 1) ls (by omega) (by rw [he, q_holder, if_neg c_17]) (lv_sub hl [0, 1] rfl)
      · refine lv_iload_n hx hb dX5_holder_20 rfl (lv_at hl 0 rfl) ?_
        exact q_iret hx hb hr hlocks hS (⟨by rw [he, q_holder, if_pos c_17], ρ, hRp, hW⟩) dX5_holder_21
  refine lv_iconst (v := nI 0) hx hb dX5_holder_0 (by decide) ?_
  refine lv_istore_n (lv' := [(1, .int (nI 0)), (0, .ref (ar 0))]) hx hb dX5_holder_1 rfl hl (by decide) rfl (fun ls hl => ?_)
  exact hloop n 0 ls (by omega) rfl (lv_sub hl [0, 1] rfl)
set_option maxHeartbeats 4000000 in
set_option maxRecDepth 100000 in
/-- X5_waiting -/
theorem c_X5_waiting (l : Launch) (dd : va_G) (ga : Nat → ClassId) (n k : Nat) (ar : Nat → Nat) (σ : qSt) (hsq : qSq n k) (hL : qLr ar) (x y : Int32) : Met l yX5_waiting wsX5_waiting ({ frames := 1, cells := 0, slots := 0, locals := 21 }) (qPc dd ga [.ref (ar 0), .int x, .int y] (fun H => qR dd ga n k ar σ H)) (qQi (fun v H => v = q_waitingI n σ x y ∧ qR dd ga n k ar σ H) (qAr ar)) 0 0 (qAr ar) := by
  by_cases hnx : q_node n x = true ∧ q_node n y = true
  · obtain ⟨f, hf, rfl⟩ : ∃ f : Nat, f < n ∧ x = nI f := by
      rcases q_nodeC hsq.n.2 x with h | h
      · exact h.2
      · rw [h] at hnx; exact absurd hnx.1 (by decide)
    obtain ⟨t, ht, rfl⟩ : ∃ t : Nat, t < n ∧ y = nI t := by
      rcases q_nodeC hsq.n.2 y with h | h
      · exact h.2
      · rw [h] at hnx; exact absurd hnx.2 (by decide)
    refine Met.ofW (cc := cX5_waiting) (maxL := 3) (ret := (some .int)) (by decide) rfl ?_
    intro p e s m args below meth c s₁ B hml hv
    obtain ⟨rfl, ⟨ρ, hRp, hW⟩, hK⟩ := hv
    have hx := B.exec
    have hb := B.bytes
    have hr := B.returns
    have hts := atoms_spec (ws := wsX5_waiting) B.pre
    have hown : s.vm.findClass RX5 = some m.cls := findClass_of_methodNamed B.named
    have hlocks := B.notSynchronized
    have hS : qS (qAr ar) s.heap s.heap [] := qS.rf
    have hl := lv_entry ([.ref (ar 0), .int (nI f), .int (nI t)]) (n := 3) (Nat.le_of_ble_eq_true rfl)
    rw [lg_entry_eq]
    generalize (lg_sl ([.ref (ar 0), .int (nI f), .int (nI t)]) ++ List.replicate (3 - (lg_sl ([.ref (ar 0), .int (nI f), .int (nI t)])).length) Slot.unset).toArray = ls at hl ⊢
    have hin5 : ∀ w ∈ wsX50, w ∈ wsX5_waiting := by decide +kernel
    have hn1 := hsq.n.1
    have hn16 := hsq.n.2
    have hI : q_waitingI n σ (nI f) (nI t) = nI (σ.2.2.2.1 f t).length := by rw [q_waitingI, if_pos hnx, nI_clamp (by omega), nI_clamp (by omega)]
    have hwb := hRp.2.2.2.1 f t (by omega) (by omega)
    refine lv_aload_n hx hb dX5_waiting_0 rfl (lv_at hl 0 rfl) ?_
    refine lv_iload_n hx hb dX5_waiting_1 rfl (lv_at hl 1 rfl) ?_
    refine qc_i (va_runV (As := [.int (nI f)]) (rest := []) ⟨hx, hb, hml, hown, hts⟩ (c_X5_isNode l dd ga n k ar σ hsq hL (nI f)) (cwV 1 hts gX5_waiting_X5_isNode rfl rfl rfl (by decide +kernel) ⟨Nat.le_of_ble_eq_true rfl, Nat.le_of_ble_eq_true rfl⟩) (qpreV hK (⟨ρ, hRp, hW⟩) hW.self rfl) rfl rfl hl.1 rfl (lv_room (Nat.le_of_ble_eq_true rfl)) dX5_waiting_2 ⟨Nat.zero_le _, Nat.zero_le _⟩) hS (fun q h => h.elim) (fun v2 H locs hp9 hz9 ho9 hS => ?_)
    have ev2 : v2 = _ := hp9
    have hW := hW.same (fun q => ho9 q (fun h => h))
    refine lv_if_eq (tgt := 30) hx hb dX5_waiting_5 (by decide) (fun c_5 => absurd c_5 (by rw [ev2, if_pos hnx.1]; decide)) (fun c_5 => ?_)
    refine lv_aload_n hx hb dX5_waiting_8 rfl (lv_at hl 0 rfl) ?_
    refine lv_iload_n hx hb dX5_waiting_9 rfl (lv_at hl 2 rfl) ?_
    refine qc_i (va_runV (As := [.int (nI t)]) (rest := []) ⟨hx, hb, hml, hown, hts⟩ (c_X5_isNode l dd ga n k ar σ hsq hL (nI t)) (cwV 1 hts gX5_waiting_X5_isNode rfl rfl rfl (by decide +kernel) ⟨Nat.le_of_ble_eq_true rfl, Nat.le_of_ble_eq_true rfl⟩) (qpreV hK (⟨ρ, hRp, hW⟩) hW.self rfl) rfl rfl hl.1 rfl (lv_room (Nat.le_of_ble_eq_true rfl)) dX5_waiting_10 ⟨Nat.zero_le _, Nat.zero_le _⟩) hS (fun q h => h.elim) (fun v10 H locs hp9 hz9 ho9 hS => ?_)
    have ev10 : v10 = _ := hp9
    have hW := hW.same (fun q => ho9 q (fun h => h))
    refine lv_if_eq (tgt := 30) hx hb dX5_waiting_13 (by decide) (fun c_13 => absurd c_13 (by rw [ev10, if_pos hnx.2]; decide)) (fun c_13 => ?_)
    refine lv_aload_n hx hb dX5_waiting_16 rfl (lv_at hl 0 rfl) ?_
    refine qr_get (ci := 5) (C := RX5) (T := TX5) (N := 19) hx hb hts hin5 hown hK hW.self rfl 14 (by decide) (hts (.fieldLink RX5 47 "QuorumLockModel" "lying" "[I") (by decide +kernel)) rfl dX5_waiting_17 ?_
    refine lv_bipush (v := nI 16) hx hb dX5_waiting_20 (by decide) ?_
    refine lv_iload_n hx hb dX5_waiting_22 rfl (lv_at hl 1 rfl) ?_
    refine lv_imul hx hb dX5_waiting_23 ?_
    refine q_ti (y := nI (16 * f)) (pk_mul _ _) ?_
    refine lv_iload_n hx hb dX5_waiting_24 rfl (lv_at hl 2 rfl) ?_
    refine lv_iadd hx hb dX5_waiting_25 ?_
    refine q_ti (y := nI (16 * f + t)) (nI_add _ _) ?_
    refine qr_iald (v := (nI (σ.2.2.2.1 f t).length)) hx hb hK hW.a13 (16 * f + t) (by omega) (by omega) rfl hwb.1 dX5_waiting_26 ?_
    refine lv_goto (tgt := 31) hx hb dX5_waiting_27 (by decide) ?_
    exact q_iret hx hb hr hlocks hS (⟨hI.symm, ρ, hRp, hW⟩) dX5_waiting_31
  · refine Met.ofW (cc := cX5_waiting) (maxL := 3) (ret := (some .int)) (by decide) rfl ?_
    intro p e s m args below meth c s₁ B hml hv
    obtain ⟨rfl, ⟨ρ, hRp, hW⟩, hK⟩ := hv
    have hx := B.exec
    have hb := B.bytes
    have hr := B.returns
    have hts := atoms_spec (ws := wsX5_waiting) B.pre
    have hown : s.vm.findClass RX5 = some m.cls := findClass_of_methodNamed B.named
    have hlocks := B.notSynchronized
    have hS : qS (qAr ar) s.heap s.heap [] := qS.rf
    have hl := lv_entry ([.ref (ar 0), .int x, .int y]) (n := 3) (Nat.le_of_ble_eq_true rfl)
    rw [lg_entry_eq]
    generalize (lg_sl ([.ref (ar 0), .int x, .int y]) ++ List.replicate (3 - (lg_sl ([.ref (ar 0), .int x, .int y])).length) Slot.unset).toArray = ls at hl ⊢
    have hin5 : ∀ w ∈ wsX50, w ∈ wsX5_waiting := by decide +kernel
    have hn1 := hsq.n.1
    have hn16 := hsq.n.2
    have hI : q_waitingI n σ x y = -1 := by rw [q_waitingI, if_neg hnx]
    refine lv_aload_n hx hb dX5_waiting_0 rfl (lv_at hl 0 rfl) ?_
    refine lv_iload_n hx hb dX5_waiting_1 rfl (lv_at hl 1 rfl) ?_
    refine qc_i (va_runV (As := [.int x]) (rest := []) ⟨hx, hb, hml, hown, hts⟩ (c_X5_isNode l dd ga n k ar σ hsq hL x) (cwV 1 hts gX5_waiting_X5_isNode rfl rfl rfl (by decide +kernel) ⟨Nat.le_of_ble_eq_true rfl, Nat.le_of_ble_eq_true rfl⟩) (qpreV hK (⟨ρ, hRp, hW⟩) hW.self rfl) rfl rfl hl.1 rfl (lv_room (Nat.le_of_ble_eq_true rfl)) dX5_waiting_2 ⟨Nat.zero_le _, Nat.zero_le _⟩) hS (fun q h => h.elim) (fun v2 H locs hp9 hz9 ho9 hS => ?_)
    have ev2 : v2 = _ := hp9
    have hW := hW.same (fun q => ho9 q (fun h => h))
    refine lv_if_eq (tgt := 30) hx hb dX5_waiting_5 (by decide) (fun c_5 => ?_) (fun c_5 => ?_)
    · refine lv_iconst (v := (-1)) hx hb dX5_waiting_30 (by decide) ?_
      exact q_iret hx hb hr hlocks hS (⟨hI.symm, ρ, hRp, hW⟩) dX5_waiting_31
    · refine lv_aload_n hx hb dX5_waiting_8 rfl (lv_at hl 0 rfl) ?_
      refine lv_iload_n hx hb dX5_waiting_9 rfl (lv_at hl 2 rfl) ?_
      refine qc_i (va_runV (As := [.int y]) (rest := []) ⟨hx, hb, hml, hown, hts⟩ (c_X5_isNode l dd ga n k ar σ hsq hL y) (cwV 1 hts gX5_waiting_X5_isNode rfl rfl rfl (by decide +kernel) ⟨Nat.le_of_ble_eq_true rfl, Nat.le_of_ble_eq_true rfl⟩) (qpreV hK (⟨ρ, hRp, hW⟩) hW.self rfl) rfl rfl hl.1 rfl (lv_room (Nat.le_of_ble_eq_true rfl)) dX5_waiting_10 ⟨Nat.zero_le _, Nat.zero_le _⟩) hS (fun q h => h.elim) (fun v10 H locs hp9 hz9 ho9 hS => ?_)
      have ev10 : v10 = _ := hp9
      have hW := hW.same (fun q => ho9 q (fun h => h))
      refine lv_if_eq (tgt := 30) hx hb dX5_waiting_13 (by decide) (fun c_13 => ?_) (fun c_13 => absurd (by rw [ev10, if_neg (fun h => hnx ⟨Classical.byContradiction fun h2 => c_5 (by rw [ev2, if_neg h2]), h⟩)]) c_13)
      refine lv_iconst (v := (-1)) hx hb dX5_waiting_30 (by decide) ?_
      exact q_iret hx hb hr hlocks hS (⟨hI.symm, ρ, hRp, hW⟩) dX5_waiting_31
set_option maxHeartbeats 4000000 in
set_option maxRecDepth 100000 in
/-- X5_look -/
theorem c_X5_look (l : Launch) (dd : va_G) (ga : Nat → ClassId) (n k : Nat) (ar : Nat → Nat) (σ : qSt) (hsq : qSq n k) (hL : qLr ar) (x y : Int32) (u v : Int32) : Met l yX5_look wsX5_look ({ frames := 1, cells := 0, slots := 0, locals := 21 }) (qPc dd ga [.ref (ar 0), .int x, .int y, .int u, .int v] (fun H => qR dd ga n k ar σ H)) (qQi (fun z H => z = q_lookI n σ x y u v ∧ qR dd ga n k ar σ H) (qAr ar)) 0 0 (qAr ar) := by
  by_cases hnx : q_node n x = true ∧ q_node n y = true
  · obtain ⟨f, hf, rfl⟩ : ∃ f : Nat, f < n ∧ x = nI f := by
      rcases q_nodeC hsq.n.2 x with h | h
      · exact h.2
      · rw [h] at hnx; exact absurd hnx.1 (by decide)
    obtain ⟨t, ht, rfl⟩ : ∃ t : Nat, t < n ∧ y = nI t := by
      rcases q_nodeC hsq.n.2 y with h | h
      · exact h.2
      · rw [h] at hnx; exact absurd hnx.2 (by decide)
    refine Met.ofW (cc := cX5_look) (maxL := 6) (ret := (some .int)) (by decide) rfl ?_
    intro p e s m args below meth c s₁ B hml hv
    obtain ⟨rfl, ⟨ρ, hRp, hW⟩, hK⟩ := hv
    have hx := B.exec
    have hb := B.bytes
    have hr := B.returns
    have hts := atoms_spec (ws := wsX5_look) B.pre
    have hown : s.vm.findClass RX5 = some m.cls := findClass_of_methodNamed B.named
    have hlocks := B.notSynchronized
    have hS : qS (qAr ar) s.heap s.heap [] := qS.rf
    have hl := lv_entry ([.ref (ar 0), .int (nI f), .int (nI t), .int u, .int v]) (n := 6) (Nat.le_of_ble_eq_true rfl)
    rw [lg_entry_eq]
    generalize (lg_sl ([.ref (ar 0), .int (nI f), .int (nI t), .int u, .int v]) ++ List.replicate (6 - (lg_sl ([.ref (ar 0), .int (nI f), .int (nI t), .int u, .int v])).length) Slot.unset).toArray = ls at hl ⊢
    have hin5 : ∀ w ∈ wsX50, w ∈ wsX5_look := by decide +kernel
    have hn1 := hsq.n.1
    have hn16 := hsq.n.2
    have hI : q_lookI n σ (nI f) (nI t) u v = q_part (σ.2.2.2.1 f t) u v := by rw [q_lookI, if_pos hnx, nI_clamp (by omega), nI_clamp (by omega)]
    have hwb := hRp.2.2.2.1 f t (by omega) (by omega)
    refine lv_aload_n hx hb dX5_look_0 rfl (lv_at hl 0 rfl) ?_
    refine lv_iload_n hx hb dX5_look_1 rfl (lv_at hl 1 rfl) ?_
    refine qc_i (va_runV (As := [.int (nI f)]) (rest := []) ⟨hx, hb, hml, hown, hts⟩ (c_X5_isNode l dd ga n k ar σ hsq hL (nI f)) (cwV 1 hts gX5_look_X5_isNode rfl rfl rfl (by decide +kernel) ⟨Nat.le_of_ble_eq_true rfl, Nat.le_of_ble_eq_true rfl⟩) (qpreV hK (⟨ρ, hRp, hW⟩) hW.self rfl) rfl rfl hl.1 rfl (lv_room (Nat.le_of_ble_eq_true rfl)) dX5_look_2 ⟨Nat.zero_le _, Nat.zero_le _⟩) hS (fun q h => h.elim) (fun v2 H locs hp9 hz9 ho9 hS => ?_)
    have ev2 : v2 = _ := hp9
    have hW := hW.same (fun q => ho9 q (fun h => h))
    refine lv_if_eq (tgt := 35) hx hb dX5_look_5 (by decide) (fun c_5 => absurd c_5 (by rw [ev2, if_pos hnx.1]; decide)) (fun c_5 => ?_)
    refine lv_aload_n hx hb dX5_look_8 rfl (lv_at hl 0 rfl) ?_
    refine lv_iload_n hx hb dX5_look_9 rfl (lv_at hl 2 rfl) ?_
    refine qc_i (va_runV (As := [.int (nI t)]) (rest := []) ⟨hx, hb, hml, hown, hts⟩ (c_X5_isNode l dd ga n k ar σ hsq hL (nI t)) (cwV 1 hts gX5_look_X5_isNode rfl rfl rfl (by decide +kernel) ⟨Nat.le_of_ble_eq_true rfl, Nat.le_of_ble_eq_true rfl⟩) (qpreV hK (⟨ρ, hRp, hW⟩) hW.self rfl) rfl rfl hl.1 rfl (lv_room (Nat.le_of_ble_eq_true rfl)) dX5_look_10 ⟨Nat.zero_le _, Nat.zero_le _⟩) hS (fun q h => h.elim) (fun v10 H locs hp9 hz9 ho9 hS => ?_)
    have ev10 : v10 = _ := hp9
    have hW := hW.same (fun q => ho9 q (fun h => h))
    refine lv_if_eq (tgt := 35) hx hb dX5_look_13 (by decide) (fun c_13 => absurd c_13 (by rw [ev10, if_pos hnx.2]; decide)) (fun c_13 => ?_)
    refine lv_iload_n hx hb dX5_look_16 rfl (lv_at hl 3 rfl) ?_
    refine lv_if_lt (tgt := 35) hx hb dX5_look_17 (by decide) (fun c_17 => ?_) (fun c_17 => ?_)
    · have hat : u < 0 ∨ nI (σ.2.2.2.1 f t).length ≤ u := Or.inl c_17
      refine lv_iconst (v := (-1)) hx hb dX5_look_35 (by decide) ?_
      exact q_iret hx hb hr hlocks hS ⟨by rw [hI]; exact (q_part_n hat).symm, ρ, hRp, hW⟩ dX5_look_36
    · refine lv_iload_n hx hb dX5_look_20 rfl (lv_at hl 3 rfl) ?_
      refine lv_aload_n hx hb dX5_look_21 rfl (lv_at hl 0 rfl) ?_
      refine qr_get (ci := 5) (C := RX5) (T := TX5) (N := 19) hx hb hts hin5 hown hK hW.self rfl 14 (by decide) (hts (.fieldLink RX5 47 "QuorumLockModel" "lying" "[I") (by decide +kernel)) rfl dX5_look_22 ?_
      refine lv_bipush (v := nI 16) hx hb dX5_look_25 (by decide) ?_
      refine lv_iload_n hx hb dX5_look_27 rfl (lv_at hl 1 rfl) ?_
      refine lv_imul hx hb dX5_look_28 ?_
      refine q_ti (y := nI (16 * f)) (pk_mul _ _) ?_
      refine lv_iload_n hx hb dX5_look_29 rfl (lv_at hl 2 rfl) ?_
      refine lv_iadd hx hb dX5_look_30 ?_
      refine q_ti (y := nI (16 * f + t)) (nI_add _ _) ?_
      refine qr_iald (v := (nI (σ.2.2.2.1 f t).length)) hx hb hK hW.a13 (16 * f + t) (by omega) (by omega) rfl hwb.1 dX5_look_31 ?_
      refine lv_icmp_lt (tgt := 37) hx hb dX5_look_32 (by decide) (fun c_32 => ?_) (fun c_32 => ?_)
      · have hat : ¬ (u < 0 ∨ nI (σ.2.2.2.1 f t).length ≤ u) := fun h => h.elim c_17 (fun h => absurd c_32 (Int32.not_lt.mpr h))
        obtain ⟨j, hj, ej⟩ : ∃ j : Nat, j < (σ.2.2.2.1 f t).length ∧ u = nI j := by
          rcases pk_ix u (n := (σ.2.2.2.1 f t).length) (by omega) with h | h | h
          · exact absurd (Or.inl h) hat
          · exact absurd (Or.inr h) hat
          · exact h
        have hm3 := hwb.2.2 j _ (q_gd (d := (0, 0, 0)) hj)
        refine lv_bipush (v := nI 64) hx hb dX5_look_37 (by decide) ?_
        refine lv_bipush (v := nI 16) hx hb dX5_look_39 (by decide) ?_
        refine lv_iload_n hx hb dX5_look_41 rfl (lv_at hl 1 rfl) ?_
        refine lv_imul hx hb dX5_look_42 ?_
        refine q_ti (y := nI (16 * f)) (pk_mul _ _) ?_
        refine lv_iload_n hx hb dX5_look_43 rfl (lv_at hl 2 rfl) ?_
        refine lv_iadd hx hb dX5_look_44 ?_
        refine q_ti (y := nI (16 * f + t)) (nI_add _ _) ?_
        refine lv_imul hx hb dX5_look_45 ?_
        refine q_ti (y := nI (64 * (16 * f + t))) (pk_mul _ _) ?_
        refine lv_iload_n hx hb dX5_look_46 rfl (lv_at hl 3 rfl) ?_
        refine lv_iadd hx hb dX5_look_47 ?_
        refine q_ti (y := nI (64 * (16 * f + t) + j)) (by rw [ej]; exact nI_add _ _) ?_
        refine lv_istore (lv' := [(5, .int (nI (64 * (16 * f + t) + j))), (0, .ref (ar 0)), (1, .int (nI f)), (2, .int (nI t)), (3, .int u), (4, .int v)]) hx hb dX5_look_48 hl (by decide) rfl (fun ls hl => ?_)
        refine lv_iload hx hb dX5_look_50 (lv_at hl 5 rfl) ?_
        refine lv_if_ne (tgt := 65) hx hb dX5_look_52 (by decide) (fun c_52 => ?_) (fun c_52 => ?_)
        · refine lv_iload hx hb dX5_look_65 (lv_at hl 5 rfl) ?_
          refine lv_iconst (v := 1) hx hb dX5_look_67 (by decide) ?_
          refine lv_icmp_ne (tgt := 81) hx hb dX5_look_68 (by decide) (fun c_68 => ?_) (fun c_68 => ?_)
          · refine lv_iload hx hb dX5_look_81 (lv_at hl 5 rfl) ?_
            refine lv_iconst (v := 2) hx hb dX5_look_83 (by decide) ?_
            refine lv_icmp_ne (tgt := 97) hx hb dX5_look_84 (by decide) (fun c_84 => ?_) (fun c_84 => ?_)
            · refine lv_iconst (v := (-1)) hx hb dX5_look_97 (by decide) ?_
              exact q_iret hx hb hr hlocks hS ⟨by rw [hI]; unfold q_part; rw [if_neg hat, ej, nI_clamp (by omega)]; first | rw [if_pos c_52] | rw [if_neg c_52, if_pos c_68] | rw [if_neg c_52, if_neg c_68, if_pos c_84] | rw [if_neg c_52, if_neg c_68, if_neg c_84], ρ, hRp, hW⟩ dX5_look_98
            · refine lv_aload_n hx hb dX5_look_87 rfl (lv_at hl 1 rfl) ?_
              refine qr_get (ci := 5) (C := RX5) (T := TX5) (N := 19) hx hb hts hin5 hown hK hW.self rfl 17 (by decide) (hts (.fieldLink RX5 56 "QuorumLockModel" "clocks" "[I") (by decide +kernel)) rfl dX5_look_88 ?_
              refine lv_iload hx hb dX5_look_91 (lv_at hl 0 rfl) ?_
              refine qr_iald (v := ((σ.2.2.2.1 f t).getD j (0, 0, 0)).2.2) hx hb hK hW.a16 (64 * (16 * f + t) + j) (by omega) (by omega) rfl hm3.2.2 dX5_look_93 ?_
              refine lv_goto (tgt := 98) hx hb dX5_look_94 (by decide) ?_
              exact q_iret hx hb hr hlocks hS ⟨by rw [hI]; unfold q_part; rw [if_neg hat, ej, nI_clamp (by omega)]; first | rw [if_pos c_52] | rw [if_neg c_52, if_pos c_68] | rw [if_neg c_52, if_neg c_68, if_pos c_84] | rw [if_neg c_52, if_neg c_68, if_neg c_84], ρ, hRp, hW⟩ dX5_look_98
          · refine lv_aload_n hx hb dX5_look_71 rfl (lv_at hl 1 rfl) ?_
            refine qr_get (ci := 5) (C := RX5) (T := TX5) (N := 19) hx hb hts hin5 hown hK hW.self rfl 16 (by decide) (hts (.fieldLink RX5 53 "QuorumLockModel" "times" "[I") (by decide +kernel)) rfl dX5_look_72 ?_
            refine lv_iload hx hb dX5_look_75 (lv_at hl 0 rfl) ?_
            refine qr_iald (v := ((σ.2.2.2.1 f t).getD j (0, 0, 0)).2.1) hx hb hK hW.a15 (64 * (16 * f + t) + j) (by omega) (by omega) rfl hm3.2.1 dX5_look_77 ?_
            refine lv_goto (tgt := 98) hx hb dX5_look_78 (by decide) ?_
            exact q_iret hx hb hr hlocks hS ⟨by rw [hI]; unfold q_part; rw [if_neg hat, ej, nI_clamp (by omega)]; first | rw [if_pos c_52] | rw [if_neg c_52, if_pos c_68] | rw [if_neg c_52, if_neg c_68, if_pos c_84] | rw [if_neg c_52, if_neg c_68, if_neg c_84], ρ, hRp, hW⟩ dX5_look_98
        · refine lv_aload_n hx hb dX5_look_55 rfl (lv_at hl 1 rfl) ?_
          refine qr_get (ci := 5) (C := RX5) (T := TX5) (N := 19) hx hb hts hin5 hown hK hW.self rfl 15 (by decide) (hts (.fieldLink RX5 50 "QuorumLockModel" "kinds" "[I") (by decide +kernel)) rfl dX5_look_56 ?_
          refine lv_iload hx hb dX5_look_59 (lv_at hl 0 rfl) ?_
          refine qr_iald (v := ((σ.2.2.2.1 f t).getD j (0, 0, 0)).1) hx hb hK hW.a14 (64 * (16 * f + t) + j) (by omega) (by omega) rfl hm3.1 dX5_look_61 ?_
          refine lv_goto (tgt := 98) hx hb dX5_look_62 (by decide) ?_
          exact q_iret hx hb hr hlocks hS ⟨by rw [hI]; unfold q_part; rw [if_neg hat, ej, nI_clamp (by omega)]; first | rw [if_pos c_52] | rw [if_neg c_52, if_pos c_68] | rw [if_neg c_52, if_neg c_68, if_pos c_84] | rw [if_neg c_52, if_neg c_68, if_neg c_84], ρ, hRp, hW⟩ dX5_look_98
      · have hat : u < 0 ∨ nI (σ.2.2.2.1 f t).length ≤ u := Or.inr (Int32.not_lt.mp c_32)
        refine lv_iconst (v := (-1)) hx hb dX5_look_35 (by decide) ?_
        exact q_iret hx hb hr hlocks hS ⟨by rw [hI]; exact (q_part_n hat).symm, ρ, hRp, hW⟩ dX5_look_36
  · refine Met.ofW (cc := cX5_look) (maxL := 6) (ret := (some .int)) (by decide) rfl ?_
    intro p e s m args below meth c s₁ B hml hv
    obtain ⟨rfl, ⟨ρ, hRp, hW⟩, hK⟩ := hv
    have hx := B.exec
    have hb := B.bytes
    have hr := B.returns
    have hts := atoms_spec (ws := wsX5_look) B.pre
    have hown : s.vm.findClass RX5 = some m.cls := findClass_of_methodNamed B.named
    have hlocks := B.notSynchronized
    have hS : qS (qAr ar) s.heap s.heap [] := qS.rf
    have hl := lv_entry ([.ref (ar 0), .int x, .int y, .int u, .int v]) (n := 6) (Nat.le_of_ble_eq_true rfl)
    rw [lg_entry_eq]
    generalize (lg_sl ([.ref (ar 0), .int x, .int y, .int u, .int v]) ++ List.replicate (6 - (lg_sl ([.ref (ar 0), .int x, .int y, .int u, .int v])).length) Slot.unset).toArray = ls at hl ⊢
    have hin5 : ∀ w ∈ wsX50, w ∈ wsX5_look := by decide +kernel
    have hn1 := hsq.n.1
    have hn16 := hsq.n.2
    have hI : q_lookI n σ x y u v = -1 := by rw [q_lookI, if_neg hnx]
    refine lv_aload_n hx hb dX5_look_0 rfl (lv_at hl 0 rfl) ?_
    refine lv_iload_n hx hb dX5_look_1 rfl (lv_at hl 1 rfl) ?_
    refine qc_i (va_runV (As := [.int x]) (rest := []) ⟨hx, hb, hml, hown, hts⟩ (c_X5_isNode l dd ga n k ar σ hsq hL x) (cwV 1 hts gX5_look_X5_isNode rfl rfl rfl (by decide +kernel) ⟨Nat.le_of_ble_eq_true rfl, Nat.le_of_ble_eq_true rfl⟩) (qpreV hK (⟨ρ, hRp, hW⟩) hW.self rfl) rfl rfl hl.1 rfl (lv_room (Nat.le_of_ble_eq_true rfl)) dX5_look_2 ⟨Nat.zero_le _, Nat.zero_le _⟩) hS (fun q h => h.elim) (fun v2 H locs hp9 hz9 ho9 hS => ?_)
    have ev2 : v2 = _ := hp9
    have hW := hW.same (fun q => ho9 q (fun h => h))
    refine lv_if_eq (tgt := 35) hx hb dX5_look_5 (by decide) (fun c_5 => ?_) (fun c_5 => ?_)
    · refine lv_iconst (v := (-1)) hx hb dX5_look_35 (by decide) ?_
      exact q_iret hx hb hr hlocks hS (⟨hI.symm, ρ, hRp, hW⟩) dX5_look_36
    · refine lv_aload_n hx hb dX5_look_8 rfl (lv_at hl 0 rfl) ?_
      refine lv_iload_n hx hb dX5_look_9 rfl (lv_at hl 2 rfl) ?_
      refine qc_i (va_runV (As := [.int y]) (rest := []) ⟨hx, hb, hml, hown, hts⟩ (c_X5_isNode l dd ga n k ar σ hsq hL y) (cwV 1 hts gX5_look_X5_isNode rfl rfl rfl (by decide +kernel) ⟨Nat.le_of_ble_eq_true rfl, Nat.le_of_ble_eq_true rfl⟩) (qpreV hK (⟨ρ, hRp, hW⟩) hW.self rfl) rfl rfl hl.1 rfl (lv_room (Nat.le_of_ble_eq_true rfl)) dX5_look_10 ⟨Nat.zero_le _, Nat.zero_le _⟩) hS (fun q h => h.elim) (fun v10 H locs hp9 hz9 ho9 hS => ?_)
      have ev10 : v10 = _ := hp9
      have hW := hW.same (fun q => ho9 q (fun h => h))
      refine lv_if_eq (tgt := 35) hx hb dX5_look_13 (by decide) (fun c_13 => ?_) (fun c_13 => absurd (by rw [ev10, if_neg (fun h => hnx ⟨Classical.byContradiction fun h2 => c_5 (by rw [ev2, if_neg h2]), h⟩)]) c_13)
      refine lv_iconst (v := (-1)) hx hb dX5_look_35 (by decide) ?_
      exact q_iret hx hb hr hlocks hS (⟨hI.symm, ρ, hRp, hW⟩) dX5_look_36
set_option maxHeartbeats 4000000 in
set_option maxRecDepth 100000 in
/-- X5_deliver -/
theorem c_X5_deliver (l : Launch) (dd : va_G) (ga : Nat → ClassId) (n k : Nat) (ar : Nat → Nat) (σ : qSt) (hsq : qSq n k) (hL : qLr ar) (x y : Int32) (hcap : qCap n k σ) (hkd : ∀ f t : Nat, f < n → t < n → ∀ z ∈ σ.2.2.2.1 f t, z.1 = 1 ∨ z.1 = 2 ∨ z.1 = 3 ∨ z.1 = 4 ∨ z.1 = 5 ∨ z.1 = 6) : Met l yX5_deliver wsX5_deliver ({ frames := 3, cells := 0, slots := 0, locals := 76 }) (qPc dd ga [.ref (ar 0), .int x, .int y] (fun H => qR dd ga n k ar σ H)) (qQi (fun v H => v = (q_deliverI n σ x y).1 ∧ qR dd ga n k ar (q_deliverI n σ x y).2 H) (qAr ar)) 0 0 (qAr ar) := by
  by_cases hnx : q_node n x = true ∧ q_node n y = true
  · obtain ⟨f, hf, rfl⟩ : ∃ f : Nat, f < n ∧ x = nI f := by
      rcases q_nodeC hsq.n.2 x with h | h
      · exact h.2
      · rw [h] at hnx; exact absurd hnx.1 (by decide)
    obtain ⟨t, ht, rfl⟩ : ∃ t : Nat, t < n ∧ y = nI t := by
      rcases q_nodeC hsq.n.2 y with h | h
      · exact h.2
      · rw [h] at hnx; exact absurd hnx.2 (by decide)
    have hn16 := hsq.n.2
    have hI : q_deliverI n σ (nI f) (nI t) = q_deliver n σ f t := by rw [q_deliverI, if_pos hnx, nI_clamp (by omega), nI_clamp (by omega)]
    rw [hI]
    exact c_X5_deliverY l dd ga n k ar σ hsq hL f t hf ht hcap (hkd f t hf ht)
  · refine Met.ofW (cc := cX5_deliver) (maxL := 9) (ret := (some .int)) (by decide) rfl ?_
    intro p e s m args below meth c s₁ B hml hv
    obtain ⟨rfl, ⟨ρ, hRp, hW⟩, hK⟩ := hv
    have hx := B.exec
    have hb := B.bytes
    have hr := B.returns
    have hts := atoms_spec (ws := wsX5_deliver) B.pre
    have hown : s.vm.findClass RX5 = some m.cls := findClass_of_methodNamed B.named
    have hlocks := B.notSynchronized
    have hS : qS (qAr ar) s.heap s.heap [] := qS.rf
    have hl := lv_entry ([.ref (ar 0), .int x, .int y]) (n := 9) (Nat.le_of_ble_eq_true rfl)
    rw [lg_entry_eq]
    generalize (lg_sl ([.ref (ar 0), .int x, .int y]) ++ List.replicate (9 - (lg_sl ([.ref (ar 0), .int x, .int y])).length) Slot.unset).toArray = ls at hl ⊢
    have hin5 : ∀ w ∈ wsX50, w ∈ wsX5_deliver := by decide +kernel
    have hn1 := hsq.n.1
    have hn16 := hsq.n.2
    have hI : q_deliverI n σ x y = (-1, σ) := by rw [q_deliverI, if_neg hnx]
    refine lv_aload_n hx hb dX5_deliver_0 rfl (lv_at hl 0 rfl) ?_
    refine lv_iload_n hx hb dX5_deliver_1 rfl (lv_at hl 1 rfl) ?_
    refine qc_i (va_runV (As := [.int x]) (rest := []) ⟨hx, hb, hml, hown, hts⟩ (c_X5_isNode l dd ga n k ar σ hsq hL x) (cwV 1 hts gX5_deliver_X5_isNode rfl rfl rfl (by decide +kernel) ⟨Nat.le_of_ble_eq_true rfl, Nat.le_of_ble_eq_true rfl⟩) (qpreV hK (⟨ρ, hRp, hW⟩) hW.self rfl) rfl rfl hl.1 rfl (lv_room (Nat.le_of_ble_eq_true rfl)) dX5_deliver_2 ⟨Nat.zero_le _, Nat.zero_le _⟩) hS (fun q h => h.elim) (fun v2 H locs hp9 hz9 ho9 hS => ?_)
    have ev2 : v2 = _ := hp9
    have hW := hW.same (fun q => ho9 q (fun h => h))
    refine lv_if_eq (tgt := 16) hx hb dX5_deliver_5 (by decide) (fun c_5 => ?_) (fun c_5 => ?_)
    · refine lv_iconst (v := (-1)) hx hb dX5_deliver_16 (by decide) ?_
      exact q_iret hx hb hr hlocks hS (by rw [hI]; exact ⟨rfl, ρ, hRp, hW⟩) dX5_deliver_17
    · refine lv_aload_n hx hb dX5_deliver_8 rfl (lv_at hl 0 rfl) ?_
      refine lv_iload_n hx hb dX5_deliver_9 rfl (lv_at hl 2 rfl) ?_
      refine qc_i (va_runV (As := [.int y]) (rest := []) ⟨hx, hb, hml, hown, hts⟩ (c_X5_isNode l dd ga n k ar σ hsq hL y) (cwV 1 hts gX5_deliver_X5_isNode rfl rfl rfl (by decide +kernel) ⟨Nat.le_of_ble_eq_true rfl, Nat.le_of_ble_eq_true rfl⟩) (qpreV hK (⟨ρ, hRp, hW⟩) hW.self rfl) rfl rfl hl.1 rfl (lv_room (Nat.le_of_ble_eq_true rfl)) dX5_deliver_10 ⟨Nat.zero_le _, Nat.zero_le _⟩) hS (fun q h => h.elim) (fun v10 H locs hp9 hz9 ho9 hS => ?_)
      have ev10 : v10 = _ := hp9
      have hW := hW.same (fun q => ho9 q (fun h => h))
      refine lv_if_ne (tgt := 18) hx hb dX5_deliver_13 (by decide) (fun c_13 => absurd (by rw [ev10, if_neg (fun h => hnx ⟨Classical.byContradiction fun h2 => c_5 (by rw [ev2, if_neg h2]), h⟩)]) c_13) (fun c_13 => ?_)
      refine lv_iconst (v := (-1)) hx hb dX5_deliver_16 (by decide) ?_
      exact q_iret hx hb hr hlocks hS (by rw [hI]; exact ⟨rfl, ρ, hRp, hW⟩) dX5_deliver_17
