theorem q_sum_0 {w : Nat → Nat → List qM} {f : Nat} : ∀ {m : Nat}, (∀ t, t < m → w f t = []) → q_sum w f m = 0
  | 0, _ => rfl
  | m + 1, h => by
    unfold q_sum
    rw [q_sum_0 (m := m) (fun t ht => h t (by omega)), h m (by omega)]
    rfl
theorem q_sw8 {x : Int32} (h0 : x ≠ 0) (h1 : x ≠ 1) (h2 : x ≠ 2) (h3 : x ≠ 3) (h4 : x ≠ 4) (h5 : x ≠ 5) (h6 : x ≠ 6) (h7 : x ≠ 7) : x.toInt < 0 ∨ 7 < x.toInt := by
  apply Classical.byContradiction
  intro h
  have h9 : x.toInt = 0 ∨ x.toInt = 1 ∨ x.toInt = 2 ∨ x.toInt = 3 ∨ x.toInt = 4 ∨ x.toInt = 5 ∨ x.toInt = 6 ∨ x.toInt = 7 := by omega
  rcases h9 with h9 | h9 | h9 | h9 | h9 | h9 | h9 | h9
  · exact h0 (Int32.toInt_inj.mp (h9.trans (by decide)))
  · exact h1 (Int32.toInt_inj.mp (h9.trans (by decide)))
  · exact h2 (Int32.toInt_inj.mp (h9.trans (by decide)))
  · exact h3 (Int32.toInt_inj.mp (h9.trans (by decide)))
  · exact h4 (Int32.toInt_inj.mp (h9.trans (by decide)))
  · exact h5 (Int32.toInt_inj.mp (h9.trans (by decide)))
  · exact h6 (Int32.toInt_inj.mp (h9.trans (by decide)))
  · exact h7 (Int32.toInt_inj.mp (h9.trans (by decide)))
theorem q_lt_to {σ : qSt} {f : Nat} : ∀ (c t : Nat), (q_to σ f c t = none → q_lt σ.2.2.2.1 f c t = -1 ∧ ∀ u, t ≤ u → u < t + c → σ.2.2.2.1 f u = []) ∧ (∀ u, q_to σ f c t = some u → q_lt σ.2.2.2.1 f c t = nI u ∧ t ≤ u ∧ u < t + c ∧ σ.2.2.2.1 f u ≠ [])
  | 0, t => ⟨fun _ => ⟨rfl, fun u h1 h2 => by omega⟩, fun u h => by cases h⟩
  | c + 1, t => by
    have ih := q_lt_to (σ := σ) (f := f) c (t + 1)
    by_cases h : σ.2.2.2.1 f t = []
    · refine ⟨fun h1 => ?_, fun u h1 => ?_⟩
      · rw [q_to, if_pos h] at h1
        rw [q_lt, if_pos h]
        refine ⟨(ih.1 h1).1, fun u h2 h3 => ?_⟩
        rcases Nat.lt_or_ge t u with h4 | h4
        · exact (ih.1 h1).2 u h4 (by omega)
        · have : u = t := by omega
          subst this; exact h
      · rw [q_to, if_pos h] at h1
        rw [q_lt, if_pos h]
        have := ih.2 u h1
        exact ⟨this.1, by omega, by omega, this.2.2.2⟩
    · refine ⟨fun h1 => ?_, fun u h1 => ?_⟩
      · rw [q_to, if_neg h] at h1; cases h1
      · rw [q_to, if_neg h] at h1
        cases h1
        rw [q_lt, if_neg h]
        exact ⟨rfl, Nat.le_refl _, by omega, h⟩
theorem q_lf_from {n : Nat} {σ : qSt} : ∀ (c f : Nat), (q_from n σ c f = none → q_lf σ.2.2.2.1 n c f = -1) ∧ (∀ g t, q_from n σ c f = some (g, t) → q_lf σ.2.2.2.1 n c f = nI g ∧ q_lt σ.2.2.2.1 g n 0 = nI t ∧ g < f + c ∧ t < n ∧ σ.2.2.2.1 g t ≠ [])
  | 0, f => ⟨fun _ => rfl, fun g t h => by cases h⟩
  | c + 1, f => by
    have ih := q_lf_from (n := n) (σ := σ) c (f + 1)
    have hlt := q_lt_to (σ := σ) (f := f) n 0
    cases h : q_to σ f n 0 with
    | none =>
      have hs : q_sum σ.2.2.2.1 f n = 0 := by
        have h2 := (hlt.1 h).2
        apply Classical.byContradiction
        intro h3
        exact h3 (q_sum_0 (fun u hu => h2 u (by omega) (by omega)))
      refine ⟨fun h1 => ?_, fun g t h1 => ?_⟩
      · rw [q_from, h] at h1
        rw [q_lf, if_pos hs]; exact ih.1 h1
      · rw [q_from, h] at h1
        rw [q_lf, if_pos hs]
        have := ih.2 g t h1
        exact ⟨this.1, this.2.1, by omega, this.2.2.2⟩
    | some t0 =>
      have h2 := hlt.2 t0 h
      have hs : ¬ q_sum σ.2.2.2.1 f n = 0 := by
        have := q_sum_p h2.2.2.2 (m := n) (by omega)
        omega
      refine ⟨fun h1 => ?_, fun g t h1 => ?_⟩
      · rw [q_from, h] at h1; cases h1
      · rw [q_from, h] at h1
        cases h1
        rw [q_lf, if_neg hs]
        exact ⟨rfl, h2.1, by omega, by omega, h2.2.2.2⟩
set_option maxHeartbeats 4000000 in
set_option maxRecDepth 100000 in
/-- X4_request -/
theorem c_X4_request (l : Launch) (dd : va_G) (ga : Nat → ClassId) (n k : Nat) (ad : Nat → Nat → Nat) (σ : qSt) (hsq : qSq n k) (hL : qL n ad) (x : Int32) (hcap : qCap n k σ) : Met l yX4_request wsX4_request ({ frames := 4, cells := 0, slots := 0, locals := 97 }) (qPc dd ga [.ref (ad 0 0), .int x] (fun H => qC dd ga n k ad σ H)) (qQi (fun v H => v = (q_requestI n k σ x).1 ∧ qC dd ga n k ad (q_requestI n k σ x).2 H) (qA n ad)) 0 0 (qA n ad) := by
  rcases q_nodeC hsq.n.2 x with ⟨hnx, i, hi, rfl⟩ | hnx
  · refine Met.ofW (cc := cX4_request) (maxL := 3) (ret := (some .int)) (by decide) rfl ?_
    intro p e s m args below meth c s₁ B hml hv
    obtain ⟨rfl, hC, hK⟩ := hv
    have hx := B.exec
    have hb := B.bytes
    have hr := B.returns
    have hts := atoms_spec (ws := wsX4_request) B.pre
    have hown : s.vm.findClass RX4 = some m.cls := findClass_of_methodNamed B.named
    have hlocks := B.notSynchronized
    have hS : qS (qA n ad) s.heap s.heap [] := qS.rf
    have hl := lv_entry ([.ref (ad 0 0), .int (nI i)]) (n := 3) (Nat.le_of_ble_eq_true rfl)
    rw [lg_entry_eq]
    generalize (lg_sl ([.ref (ad 0 0), .int (nI i)]) ++ List.replicate (3 - (lg_sl ([.ref (ad 0 0), .int (nI i)])).length) Slot.unset).toArray = ls at hl ⊢
    have hin0 : ∀ w ∈ wsX00, w ∈ wsX4_request := by decide +kernel
    have hin4 : ∀ w ∈ wsX40, w ∈ wsX4_request := by decide +kernel
    have hn1 := hsq.n.1
    have hn16 := hsq.n.2
    have hI : q_requestI n k σ (nI i) = q_request n k σ i := by rw [q_requestI, if_pos hnx, nI_clamp (by omega)]
    refine lv_aload_n hx hb dX4_request_0 rfl (lv_at hl 0 rfl) ?_
    refine lv_iload_n hx hb dX4_request_1 rfl (lv_at hl 1 rfl) ?_
    refine qc_i (va_runV (As := [.int (nI i)]) (rest := []) ⟨hx, hb, hml, hown, hts⟩ (c_X4_isNode l dd ga n k ad σ hsq hL (nI i)) (cwV 1 hts gX4_request_X4_isNode rfl rfl rfl (by decide +kernel) ⟨Nat.le_of_ble_eq_true rfl, Nat.le_of_ble_eq_true rfl⟩) (qpreV hK hC hC.self rfl) rfl rfl hl.1 rfl (lv_room (Nat.le_of_ble_eq_true rfl)) dX4_request_2 ⟨Nat.zero_le _, Nat.zero_le _⟩) hS (fun q h => h.elim) (fun v2 H locs hp9 hz9 ho9 hS => ?_)
    have ev2 : v2 = _ := hp9
    have hC := hC.same (fun q => ho9 q (fun h => h))
    refine lv_if_ne (tgt := 10) hx hb dX4_request_5 (by decide) (fun c_5 => ?_) (fun c_5 => absurd c_5 (by rw [ev2, if_pos hnx]; decide))
    refine lv_aload_n hx hb dX4_request_10 rfl (lv_at hl 0 rfl) ?_
    refine qr_get (ci := 4) (C := RX4) (T := TX4) (N := 7) hx hb hts hin4 hown hK hC.self rfl 3 (by decide) (hts (.fieldLink RX4 31 "QuorumLock" "askers" "[LQuorumLock$Asker;") (by decide +kernel)) rfl dX4_request_11 ?_
    refine lv_iload_n hx hb dX4_request_14 rfl (lv_at hl 1 rfl) ?_
    refine qr_aald (v := ad 10 i) hx hb hK 2 hC.arA rfl i (by omega) (by omega) rfl rfl dX4_request_15 ?_
    refine lv_astore_n (lv' := [(2, .ref (ad 10 i)), (0, .ref (ad 0 0)), (1, .int (nI i))]) hx hb dX4_request_16 rfl hl (by decide) rfl (fun ls hl => ?_)
    refine lv_aload_n hx hb dX4_request_17 rfl (lv_at hl 0 rfl) ?_
    refine qr_get (ci := 0) (C := RX0) (T := TX0) (N := 5) hx hb hts hin0 hown hK (hC.ask i hi) rfl 0 (by decide) (hts (.fieldLink RX4 74 "QuorumLock$Asker" "state" "I") (by decide +kernel)) rfl dX4_request_18 ?_
    refine lv_if_eq (tgt := 26) hx hb dX4_request_21 (by decide) (fun c_21 => ?_) (fun c_21 => ?_)
    · refine lv_aload_n hx hb dX4_request_26 rfl (lv_at hl 1 rfl) ?_
      refine qr_get (ci := 4) (C := RX4) (T := TX4) (N := 7) hx hb hts hin4 hown hK hC.self rfl 2 (by decide) (hts (.fieldLink RX4 26 "QuorumLock" "clocks" "[I") (by decide +kernel)) rfl dX4_request_27 ?_
      refine lv_iload_n hx hb dX4_request_30 rfl (lv_at hl 2 rfl) ?_
      refine lv_dup2_11 hx hb dX4_request_31 rfl rfl ?_
      refine qr_iald (v := (σ.1 0 i)) hx hb hK hC.clk i (by omega) (by omega) rfl rfl dX4_request_32 ?_
      refine lv_iconst (v := 1) hx hb dX4_request_33 (by decide) ?_
      refine lv_iadd hx hb dX4_request_34 ?_
      refine qr_iast hx hb hK hC.clk hS (⟨2, 0, qd.z (by decide), rfl⟩) i (by omega) (by omega) rfl dX4_request_35 (fun H locs hz9 ho9 hat9 hS => ?_)
      have hC := hC.putClk (σ' := s_tb σ 0 i (σ.1 0 i + 1)) hL ho9 (by have h9 : ((s_tb σ 0 i (σ.1 0 i + 1)).1 0) = upd (σ.1 0) i (σ.1 0 i + 1) := (by funext j; by_cases h : j = i <;> simp [s_tb, q2, upd, h]); rw [h9]; exact hat9) (fun f j h => q2_n (by omega)) rfl
      refine lv_aload_n hx hb dX4_request_36 rfl (lv_at hl 0 rfl) ?_
      refine lv_aload_n hx hb dX4_request_37 rfl (lv_at hl 1 rfl) ?_
      refine qr_get (ci := 4) (C := RX4) (T := TX4) (N := 7) hx hb hts hin4 hown hK hC.self rfl 2 (by decide) (hts (.fieldLink RX4 26 "QuorumLock" "clocks" "[I") (by decide +kernel)) rfl dX4_request_38 ?_
      refine lv_iload_n hx hb dX4_request_41 rfl (lv_at hl 2 rfl) ?_
      refine qr_iald (v := (σ.1 0 i + 1)) hx hb hK hC.clk i (by omega) (by omega) rfl (by simp [s_tb, q2]) dX4_request_42 ?_
      refine qc_v (va_runV (As := [.int (σ.1 0 i + 1)]) (rest := []) ⟨hx, hb, hml, hown, hts⟩ (c_X0_becomeAsking l dd ga (ad 10 i) ((s_tb σ 0 i (σ.1 0 i + 1)).1 1 i) ((s_tb σ 0 i (σ.1 0 i + 1)).1 2 i) ((s_tb σ 0 i (σ.1 0 i + 1)).1 3 i) ((s_tb σ 0 i (σ.1 0 i + 1)).1 4 i) ((s_tb σ 0 i (σ.1 0 i + 1)).1 5 i) (σ.1 0 i + 1)) (cwV 1 hts gX4_request_X0_becomeAsking rfl rfl rfl (by decide +kernel) ⟨Nat.le_of_ble_eq_true rfl, Nat.le_of_ble_eq_true rfl⟩) (qpreV hK (hC.ask i hi) (hC.ask i hi) rfl) rfl rfl hl.1 rfl (lv_room (Nat.le_of_ble_eq_true rfl)) dX4_request_43 ⟨Nat.zero_le _, Nat.zero_le _⟩) hS (fun q h => qA.at (by decide) (by decide) hi h) (fun H locs hp9 hz9 ho9 hS => ?_)
      have hC := hC.putAsk (σ' := q_empty (s_tb (s_tb (s_tb σ 0 i (σ.1 0 i + 1)) 1 i 1) 2 i (σ.1 0 i + 1)) i) hL hi ho9 (by simpa [q_empty, s_tb, q2] using hp9) (fun f j h => by simp only [q_empty, s_tb, q2]; repeat rw [if_neg (by omega)]) rfl
      have et : (q_empty (s_tb (s_tb (s_tb σ 0 i (σ.1 0 i + 1)) 1 i 1) 2 i (σ.1 0 i + 1)) i).1 2 i = σ.1 0 i + 1 := by simp [q_empty, s_tb, q2]
      refine lv_aload_n hx hb dX4_request_46 rfl (lv_at hl 1 rfl) ?_
      refine lv_iload_n hx hb dX4_request_47 rfl (lv_at hl 2 rfl) ?_
      refine lv_iconst (v := 1) hx hb dX4_request_48 (by decide) ?_
      refine lv_aload_n hx hb dX4_request_49 rfl (lv_at hl 0 rfl) ?_
      refine qr_get (ci := 0) (C := RX0) (T := TX0) (N := 5) hx hb hts hin0 hown hK (hC.ask i hi) rfl 1 (by decide) (hts (.fieldLink RX4 80 "QuorumLock$Asker" "time" "I") (by decide +kernel)) rfl dX4_request_50 ?_
      refine qc_v (va_runV (As := [.int (nI i), .int 1, .int ((q_empty (s_tb (s_tb (s_tb σ 0 i (σ.1 0 i + 1)) 1 i 1) 2 i (σ.1 0 i + 1)) i).1 2 i)]) (rest := []) ⟨hx, hb, hml, hown, hts⟩ (c_X4_sendToQuorum l dd ga n k ad (q_empty (s_tb (s_tb (s_tb σ 0 i (σ.1 0 i + 1)) 1 i 1) 2 i (σ.1 0 i + 1)) i) hsq hL i hi 1 ((q_empty (s_tb (s_tb (s_tb σ 0 i (σ.1 0 i + 1)) 1 i 1) 2 i (σ.1 0 i + 1)) i).1 2 i) (fun t ht => hcap.1 i t hi ht)) (cwV 3 hts gX4_request_X4_sendToQuorum rfl rfl rfl (by decide +kernel) ⟨Nat.le_of_ble_eq_true rfl, Nat.le_of_ble_eq_true rfl⟩) (qpreV hK hC hC.self rfl) rfl rfl hl.1 rfl (lv_room (Nat.le_of_ble_eq_true rfl)) dX4_request_53 ⟨Nat.zero_le _, Nat.zero_le _⟩) hS (fun q h => h) (fun H locs hp9 hz9 ho9 hS => ?_)
      have hC := hp9
      rw [et] at hC
      refine lv_iconst (v := 0) hx hb dX4_request_56 (by decide) ?_
      exact q_iret hx hb hr hlocks hS (by rw [hI, q_request, if_pos c_21]; exact ⟨rfl, hC⟩) dX4_request_57
    · refine lv_iconst (v := 1) hx hb dX4_request_24 (by decide) ?_
      exact q_iret hx hb hr hlocks hS (by rw [hI, q_request, if_neg c_21]; exact ⟨rfl, hC⟩) dX4_request_25
  · refine Met.ofW (cc := cX4_request) (maxL := 3) (ret := (some .int)) (by decide) rfl ?_
    intro p e s m args below meth c s₁ B hml hv
    obtain ⟨rfl, hC, hK⟩ := hv
    have hx := B.exec
    have hb := B.bytes
    have hr := B.returns
    have hts := atoms_spec (ws := wsX4_request) B.pre
    have hown : s.vm.findClass RX4 = some m.cls := findClass_of_methodNamed B.named
    have hlocks := B.notSynchronized
    have hS : qS (qA n ad) s.heap s.heap [] := qS.rf
    have hl := lv_entry ([.ref (ad 0 0), .int x]) (n := 3) (Nat.le_of_ble_eq_true rfl)
    rw [lg_entry_eq]
    generalize (lg_sl ([.ref (ad 0 0), .int x]) ++ List.replicate (3 - (lg_sl ([.ref (ad 0 0), .int x])).length) Slot.unset).toArray = ls at hl ⊢
    have hin0 : ∀ w ∈ wsX00, w ∈ wsX4_request := by decide +kernel
    have hin4 : ∀ w ∈ wsX40, w ∈ wsX4_request := by decide +kernel
    have hn1 := hsq.n.1
    have hn16 := hsq.n.2
    have hI : q_requestI n k σ x = (-1, σ) := by rw [q_requestI, if_neg (by rw [hnx]; decide)]
    refine lv_aload_n hx hb dX4_request_0 rfl (lv_at hl 0 rfl) ?_
    refine lv_iload_n hx hb dX4_request_1 rfl (lv_at hl 1 rfl) ?_
    refine qc_i (va_runV (As := [.int x]) (rest := []) ⟨hx, hb, hml, hown, hts⟩ (c_X4_isNode l dd ga n k ad σ hsq hL x) (cwV 1 hts gX4_request_X4_isNode rfl rfl rfl (by decide +kernel) ⟨Nat.le_of_ble_eq_true rfl, Nat.le_of_ble_eq_true rfl⟩) (qpreV hK hC hC.self rfl) rfl rfl hl.1 rfl (lv_room (Nat.le_of_ble_eq_true rfl)) dX4_request_2 ⟨Nat.zero_le _, Nat.zero_le _⟩) hS (fun q h => h.elim) (fun v2 H locs hp9 hz9 ho9 hS => ?_)
    have ev2 : v2 = _ := hp9
    have hC := hC.same (fun q => ho9 q (fun h => h))
    refine lv_if_ne (tgt := 10) hx hb dX4_request_5 (by decide) (fun c_5 => absurd (by rw [ev2, if_neg (by rw [hnx]; decide)]) c_5) (fun c_5 => ?_)
    refine lv_iconst (v := (-1)) hx hb dX4_request_8 (by decide) ?_
    exact q_iret hx hb hr hlocks hS (by rw [hI]; exact ⟨rfl, hC⟩) dX4_request_9
set_option maxHeartbeats 4000000 in
set_option maxRecDepth 100000 in
/-- X4_enter -/
theorem c_X4_enter (l : Launch) (dd : va_G) (ga : Nat → ClassId) (n k : Nat) (ad : Nat → Nat → Nat) (σ : qSt) (hsq : qSq n k) (hL : qL n ad) (x : Int32) (hq9 : ∀ i : Nat, i < n → σ.1 3 i &&& q_quo k i n = q_quo k i n → σ.1 3 i = q_quo k i n) : Met l yX4_enter wsX4_enter ({ frames := 1, cells := 0, slots := 0, locals := 21 }) (qPc dd ga [.ref (ad 0 0), .int x] (fun H => qC dd ga n k ad σ H)) (qQi (fun v H => v = (q_enterI n k σ x).1 ∧ qC dd ga n k ad (q_enterI n k σ x).2 H) (qA n ad)) 0 0 (qA n ad) := by
  rcases q_nodeC hsq.n.2 x with ⟨hnx, i, hi, rfl⟩ | hnx
  · refine Met.ofW (cc := cX4_enter) (maxL := 3) (ret := (some .boolean)) (by decide) rfl ?_
    intro p e s m args below meth c s₁ B hml hv
    obtain ⟨rfl, hC, hK⟩ := hv
    have hx := B.exec
    have hb := B.bytes
    have hr := B.returns
    have hts := atoms_spec (ws := wsX4_enter) B.pre
    have hown : s.vm.findClass RX4 = some m.cls := findClass_of_methodNamed B.named
    have hlocks := B.notSynchronized
    have hS : qS (qA n ad) s.heap s.heap [] := qS.rf
    have hl := lv_entry ([.ref (ad 0 0), .int (nI i)]) (n := 3) (Nat.le_of_ble_eq_true rfl)
    rw [lg_entry_eq]
    generalize (lg_sl ([.ref (ad 0 0), .int (nI i)]) ++ List.replicate (3 - (lg_sl ([.ref (ad 0 0), .int (nI i)])).length) Slot.unset).toArray = ls at hl ⊢
    have hin0 : ∀ w ∈ wsX00, w ∈ wsX4_enter := by decide +kernel
    have hin4 : ∀ w ∈ wsX40, w ∈ wsX4_enter := by decide +kernel
    have hn1 := hsq.n.1
    have hn16 := hsq.n.2
    have hI : q_enterI n k σ (nI i) = q_enter n k σ i := by rw [q_enterI, if_pos hnx, nI_clamp (by omega)]
    refine lv_aload_n hx hb dX4_enter_0 rfl (lv_at hl 0 rfl) ?_
    refine lv_iload_n hx hb dX4_enter_1 rfl (lv_at hl 1 rfl) ?_
    refine qc_i (va_runV (As := [.int (nI i)]) (rest := []) ⟨hx, hb, hml, hown, hts⟩ (c_X4_isNode l dd ga n k ad σ hsq hL (nI i)) (cwV 1 hts gX4_enter_X4_isNode rfl rfl rfl (by decide +kernel) ⟨Nat.le_of_ble_eq_true rfl, Nat.le_of_ble_eq_true rfl⟩) (qpreV hK hC hC.self rfl) rfl rfl hl.1 rfl (lv_room (Nat.le_of_ble_eq_true rfl)) dX4_enter_2 ⟨Nat.zero_le _, Nat.zero_le _⟩) hS (fun q h => h.elim) (fun v2 H locs hp9 hz9 ho9 hS => ?_)
    have ev2 : v2 = _ := hp9
    have hC := hC.same (fun q => ho9 q (fun h => h))
    refine lv_if_ne (tgt := 10) hx hb dX4_enter_5 (by decide) (fun c_5 => ?_) (fun c_5 => absurd c_5 (by rw [ev2, if_pos hnx]; decide))
    refine lv_aload_n hx hb dX4_enter_10 rfl (lv_at hl 0 rfl) ?_
    refine qr_get (ci := 4) (C := RX4) (T := TX4) (N := 7) hx hb hts hin4 hown hK hC.self rfl 3 (by decide) (hts (.fieldLink RX4 31 "QuorumLock" "askers" "[LQuorumLock$Asker;") (by decide +kernel)) rfl dX4_enter_11 ?_
    refine lv_iload_n hx hb dX4_enter_14 rfl (lv_at hl 1 rfl) ?_
    refine qr_aald (v := ad 10 i) hx hb hK 2 hC.arA rfl i (by omega) (by omega) rfl rfl dX4_enter_15 ?_
    refine lv_astore_n (lv' := [(2, .ref (ad 10 i)), (0, .ref (ad 0 0)), (1, .int (nI i))]) hx hb dX4_enter_16 rfl hl (by decide) rfl (fun ls hl => ?_)
    refine lv_aload_n hx hb dX4_enter_17 rfl (lv_at hl 0 rfl) ?_
    refine qr_get (ci := 0) (C := RX0) (T := TX0) (N := 5) hx hb hts hin0 hown hK (hC.ask i hi) rfl 0 (by decide) (hts (.fieldLink RX4 74 "QuorumLock$Asker" "state" "I") (by decide +kernel)) rfl dX4_enter_18 ?_
    refine lv_iconst (v := 1) hx hb dX4_enter_21 (by decide) ?_
    refine lv_icmp_ne (tgt := 45) hx hb dX4_enter_22 (by decide) (fun c_22 => ?_) (fun c_22 => ?_)
    · have hno : ¬ (σ.1 1 i = 1 ∧ σ.1 3 i = q_quo k i n) := fun h => c_22 h.1
      refine lv_iconst (v := 0) hx hb dX4_enter_45 (by decide) ?_
      exact q_zret hx hb hr hlocks rfl hS (by rw [hI, q_enter, if_neg hno]; exact ⟨rfl, hC⟩) dX4_enter_46
    · refine lv_aload_n hx hb dX4_enter_25 rfl (lv_at hl 0 rfl) ?_
      refine qr_get (ci := 0) (C := RX0) (T := TX0) (N := 5) hx hb hts hin0 hown hK (hC.ask i hi) rfl 2 (by decide) (hts (.fieldLink RX4 94 "QuorumLock$Asker" "votes" "I") (by decide +kernel)) rfl dX4_enter_26 ?_
      refine lv_aload_n hx hb dX4_enter_29 rfl (lv_at hl 1 rfl) ?_
      refine qr_get (ci := 4) (C := RX4) (T := TX4) (N := 7) hx hb hts hin4 hown hK hC.self rfl 1 (by decide) (hts (.fieldLink RX4 22 "QuorumLock" "quorums" "[I") (by decide +kernel)) rfl dX4_enter_30 ?_
      refine lv_iload_n hx hb dX4_enter_33 rfl (lv_at hl 2 rfl) ?_
      refine qr_iald (v := (q_quo k i n)) hx hb hK hC.quo i (by omega) (by omega) rfl rfl dX4_enter_34 ?_
      refine lv_iand hx hb dX4_enter_35 ?_
      refine lv_aload_n hx hb dX4_enter_36 rfl (lv_at hl 1 rfl) ?_
      refine qr_get (ci := 4) (C := RX4) (T := TX4) (N := 7) hx hb hts hin4 hown hK hC.self rfl 1 (by decide) (hts (.fieldLink RX4 22 "QuorumLock" "quorums" "[I") (by decide +kernel)) rfl dX4_enter_37 ?_
      refine lv_iload_n hx hb dX4_enter_40 rfl (lv_at hl 2 rfl) ?_
      refine qr_iald (v := (q_quo k i n)) hx hb hK hC.quo i (by omega) (by omega) rfl rfl dX4_enter_41 ?_
      refine lv_icmp_eq (tgt := 47) hx hb dX4_enter_42 (by decide) (fun c_42 => ?_) (fun c_42 => ?_)
      · refine lv_aload_n hx hb dX4_enter_47 rfl (lv_at hl 0 rfl) ?_
        refine lv_iconst (v := 2) hx hb dX4_enter_48 (by decide) ?_
        refine qr_put (ci := 0) (C := RX0) (T := TX0) (N := 5) hx hb hts hin0 tyX0 tyX0_ok nmX0 hown hK (hC.ask i hi) hS (⟨10, i, qd.i (by decide) (by decide) hi, rfl⟩) rfl 0 (by decide) (hts (.fieldLink RX4 74 "QuorumLock$Asker" "state" "I") (by decide +kernel)) rfl rfl rfl (Nat.le_of_ble_eq_true rfl) dX4_enter_49 (fun H locs hz9 ho9 hat9 hS => ?_)
        have hC := hC.putAsk (σ' := s_tb σ 1 i 2) hL hi ho9 (by simpa [s_tb, q2] using hat9) (fun f j h => by simp only [s_tb, q2]; repeat rw [if_neg (by omega)]) rfl
        refine lv_aload_n hx hb dX4_enter_52 rfl (lv_at hl 1 rfl) ?_
        refine lv_dup hx hb dX4_enter_53 rfl ?_
        refine qr_get (ci := 4) (C := RX4) (T := TX4) (N := 7) hx hb hts hin4 hown hK hC.self rfl 6 (by decide) (hts (.fieldLink RX4 67 "QuorumLock" "entries" "I") (by decide +kernel)) rfl dX4_enter_54 ?_
        refine lv_iconst (v := 1) hx hb dX4_enter_57 (by decide) ?_
        refine lv_iadd hx hb dX4_enter_58 ?_
        refine qr_put (ci := 4) (C := RX4) (T := TX4) (N := 7) hx hb hts hin4 tyX4 tyX4_ok nmX4 hown hK hC.self hS (⟨0, 0, qd.z (by decide), rfl⟩) rfl 6 (by decide) (hts (.fieldLink RX4 67 "QuorumLock" "entries" "I") (by decide +kernel)) rfl rfl rfl (Nat.le_of_ble_eq_true rfl) dX4_enter_59 (fun H locs hz9 ho9 hat9 hS => ?_)
        have hC := hC.putEn hL ho9 hat9
        refine lv_iconst (v := 1) hx hb dX4_enter_62 (by decide) ?_
        exact q_zret hx hb hr hlocks rfl hS (by rw [hI, q_enter, if_pos ⟨c_22, hq9 i hi c_42⟩]; exact ⟨rfl, hC⟩) dX4_enter_63
      · have hno : ¬ (σ.1 1 i = 1 ∧ σ.1 3 i = q_quo k i n) := fun h => c_42 (by rw [h.2, Int32.and_self])
        refine lv_iconst (v := 0) hx hb dX4_enter_45 (by decide) ?_
        exact q_zret hx hb hr hlocks rfl hS (by rw [hI, q_enter, if_neg hno]; exact ⟨rfl, hC⟩) dX4_enter_46
  · refine Met.ofW (cc := cX4_enter) (maxL := 3) (ret := (some .boolean)) (by decide) rfl ?_
    intro p e s m args below meth c s₁ B hml hv
    obtain ⟨rfl, hC, hK⟩ := hv
    have hx := B.exec
    have hb := B.bytes
    have hr := B.returns
    have hts := atoms_spec (ws := wsX4_enter) B.pre
    have hown : s.vm.findClass RX4 = some m.cls := findClass_of_methodNamed B.named
    have hlocks := B.notSynchronized
    have hS : qS (qA n ad) s.heap s.heap [] := qS.rf
    have hl := lv_entry ([.ref (ad 0 0), .int x]) (n := 3) (Nat.le_of_ble_eq_true rfl)
    rw [lg_entry_eq]
    generalize (lg_sl ([.ref (ad 0 0), .int x]) ++ List.replicate (3 - (lg_sl ([.ref (ad 0 0), .int x])).length) Slot.unset).toArray = ls at hl ⊢
    have hin0 : ∀ w ∈ wsX00, w ∈ wsX4_enter := by decide +kernel
    have hin4 : ∀ w ∈ wsX40, w ∈ wsX4_enter := by decide +kernel
    have hn1 := hsq.n.1
    have hn16 := hsq.n.2
    have hI : q_enterI n k σ x = (0, σ) := by rw [q_enterI, if_neg (by rw [hnx]; decide)]
    refine lv_aload_n hx hb dX4_enter_0 rfl (lv_at hl 0 rfl) ?_
    refine lv_iload_n hx hb dX4_enter_1 rfl (lv_at hl 1 rfl) ?_
    refine qc_i (va_runV (As := [.int x]) (rest := []) ⟨hx, hb, hml, hown, hts⟩ (c_X4_isNode l dd ga n k ad σ hsq hL x) (cwV 1 hts gX4_enter_X4_isNode rfl rfl rfl (by decide +kernel) ⟨Nat.le_of_ble_eq_true rfl, Nat.le_of_ble_eq_true rfl⟩) (qpreV hK hC hC.self rfl) rfl rfl hl.1 rfl (lv_room (Nat.le_of_ble_eq_true rfl)) dX4_enter_2 ⟨Nat.zero_le _, Nat.zero_le _⟩) hS (fun q h => h.elim) (fun v2 H locs hp9 hz9 ho9 hS => ?_)
    have ev2 : v2 = _ := hp9
    have hC := hC.same (fun q => ho9 q (fun h => h))
    refine lv_if_ne (tgt := 10) hx hb dX4_enter_5 (by decide) (fun c_5 => absurd (by rw [ev2, if_neg (by rw [hnx]; decide)]) c_5) (fun c_5 => ?_)
    refine lv_iconst (v := 0) hx hb dX4_enter_8 (by decide) ?_
    exact q_zret hx hb hr hlocks rfl hS (by rw [hI]; exact ⟨rfl, hC⟩) dX4_enter_9
set_option maxHeartbeats 4000000 in
set_option maxRecDepth 100000 in
/-- X4_release -/
theorem c_X4_release (l : Launch) (dd : va_G) (ga : Nat → ClassId) (n k : Nat) (ad : Nat → Nat → Nat) (σ : qSt) (hsq : qSq n k) (hL : qL n ad) (x : Int32) (hcap : qCap n k σ) : Met l yX4_release wsX4_release ({ frames := 4, cells := 0, slots := 0, locals := 97 }) (qPc dd ga [.ref (ad 0 0), .int x] (fun H => qC dd ga n k ad σ H)) (qQi (fun v H => v = (q_releaseI n k σ x).1 ∧ qC dd ga n k ad (q_releaseI n k σ x).2 H) (qA n ad)) 0 0 (qA n ad) := by
  rcases q_nodeC hsq.n.2 x with ⟨hnx, i, hi, rfl⟩ | hnx
  · refine Met.ofW (cc := cX4_release) (maxL := 4) (ret := (some .int)) (by decide) rfl ?_
    intro p e s m args below meth c s₁ B hml hv
    obtain ⟨rfl, hC, hK⟩ := hv
    have hx := B.exec
    have hb := B.bytes
    have hr := B.returns
    have hts := atoms_spec (ws := wsX4_release) B.pre
    have hown : s.vm.findClass RX4 = some m.cls := findClass_of_methodNamed B.named
    have hlocks := B.notSynchronized
    have hS : qS (qA n ad) s.heap s.heap [] := qS.rf
    have hl := lv_entry ([.ref (ad 0 0), .int (nI i)]) (n := 4) (Nat.le_of_ble_eq_true rfl)
    rw [lg_entry_eq]
    generalize (lg_sl ([.ref (ad 0 0), .int (nI i)]) ++ List.replicate (4 - (lg_sl ([.ref (ad 0 0), .int (nI i)])).length) Slot.unset).toArray = ls at hl ⊢
    have hin0 : ∀ w ∈ wsX00, w ∈ wsX4_release := by decide +kernel
    have hin4 : ∀ w ∈ wsX40, w ∈ wsX4_release := by decide +kernel
    have hn1 := hsq.n.1
    have hn16 := hsq.n.2
    have hI : q_releaseI n k σ (nI i) = q_release n k σ i := by rw [q_releaseI, if_pos hnx, nI_clamp (by omega)]
    refine lv_aload_n hx hb dX4_release_0 rfl (lv_at hl 0 rfl) ?_
    refine lv_iload_n hx hb dX4_release_1 rfl (lv_at hl 1 rfl) ?_
    refine qc_i (va_runV (As := [.int (nI i)]) (rest := []) ⟨hx, hb, hml, hown, hts⟩ (c_X4_isNode l dd ga n k ad σ hsq hL (nI i)) (cwV 1 hts gX4_release_X4_isNode rfl rfl rfl (by decide +kernel) ⟨Nat.le_of_ble_eq_true rfl, Nat.le_of_ble_eq_true rfl⟩) (qpreV hK hC hC.self rfl) rfl rfl hl.1 rfl (lv_room (Nat.le_of_ble_eq_true rfl)) dX4_release_2 ⟨Nat.zero_le _, Nat.zero_le _⟩) hS (fun q h => h.elim) (fun v2 H locs hp9 hz9 ho9 hS => ?_)
    have ev2 : v2 = _ := hp9
    have hC := hC.same (fun q => ho9 q (fun h => h))
    refine lv_if_ne (tgt := 10) hx hb dX4_release_5 (by decide) (fun c_5 => ?_) (fun c_5 => absurd c_5 (by rw [ev2, if_pos hnx]; decide))
    refine lv_aload_n hx hb dX4_release_10 rfl (lv_at hl 0 rfl) ?_
    refine qr_get (ci := 4) (C := RX4) (T := TX4) (N := 7) hx hb hts hin4 hown hK hC.self rfl 3 (by decide) (hts (.fieldLink RX4 31 "QuorumLock" "askers" "[LQuorumLock$Asker;") (by decide +kernel)) rfl dX4_release_11 ?_
    refine lv_iload_n hx hb dX4_release_14 rfl (lv_at hl 1 rfl) ?_
    refine qr_aald (v := ad 10 i) hx hb hK 2 hC.arA rfl i (by omega) (by omega) rfl rfl dX4_release_15 ?_
    refine lv_astore_n (lv' := [(2, .ref (ad 10 i)), (0, .ref (ad 0 0)), (1, .int (nI i))]) hx hb dX4_release_16 rfl hl (by decide) rfl (fun ls hl => ?_)
    refine lv_aload_n hx hb dX4_release_17 rfl (lv_at hl 0 rfl) ?_
    refine qr_get (ci := 0) (C := RX0) (T := TX0) (N := 5) hx hb hts hin0 hown hK (hC.ask i hi) rfl 0 (by decide) (hts (.fieldLink RX4 74 "QuorumLock$Asker" "state" "I") (by decide +kernel)) rfl dX4_release_18 ?_
    refine lv_iconst (v := 2) hx hb dX4_release_21 (by decide) ?_
    refine lv_icmp_eq (tgt := 27) hx hb dX4_release_22 (by decide) (fun c_22 => ?_) (fun c_22 => ?_)
    · refine lv_aload_n hx hb dX4_release_27 rfl (lv_at hl 0 rfl) ?_
      refine qr_get (ci := 0) (C := RX0) (T := TX0) (N := 5) hx hb hts hin0 hown hK (hC.ask i hi) rfl 1 (by decide) (hts (.fieldLink RX4 80 "QuorumLock$Asker" "time" "I") (by decide +kernel)) rfl dX4_release_28 ?_
      refine lv_istore_n (lv' := [(3, .int (σ.1 2 i)), (2, .ref (ad 10 i)), (0, .ref (ad 0 0)), (1, .int (nI i))]) hx hb dX4_release_31 rfl hl (by decide) rfl (fun ls hl => ?_)
      refine lv_aload_n hx hb dX4_release_32 rfl (lv_at hl 1 rfl) ?_
      refine qc_v (va_runV (As := []) (rest := []) ⟨hx, hb, hml, hown, hts⟩ (c_X0_becomeIdle l dd ga (ad 10 i) (σ.1 1 i) (σ.1 2 i) (σ.1 3 i) (σ.1 4 i) (σ.1 5 i)) (cwV 0 hts gX4_release_X0_becomeIdle rfl rfl rfl (by decide +kernel) ⟨Nat.le_of_ble_eq_true rfl, Nat.le_of_ble_eq_true rfl⟩) (qpreV hK (hC.ask i hi) (hC.ask i hi) rfl) rfl rfl hl.1 rfl (lv_room (Nat.le_of_ble_eq_true rfl)) dX4_release_33 ⟨Nat.zero_le _, Nat.zero_le _⟩) hS (fun q h => qA.at (by decide) (by decide) hi h) (fun H locs hp9 hz9 ho9 hS => ?_)
      have hC := hC.putAsk (σ' := q_empty (s_tb (s_tb σ 1 i 0) 2 i 0) i) hL hi ho9 (by simpa [q_empty, s_tb, q2] using hp9) (fun f j h => by simp only [q_empty, s_tb, q2]; repeat rw [if_neg (by omega)]) rfl
      refine lv_aload_n hx hb dX4_release_36 rfl (lv_at hl 2 rfl) ?_
      refine lv_iload_n hx hb dX4_release_37 rfl (lv_at hl 3 rfl) ?_
      refine lv_iconst (v := 3) hx hb dX4_release_38 (by decide) ?_
      refine lv_iload_n hx hb dX4_release_39 rfl (lv_at hl 0 rfl) ?_
      refine qc_v (va_runV (As := [.int (nI i), .int 3, .int (σ.1 2 i)]) (rest := []) ⟨hx, hb, hml, hown, hts⟩ (c_X4_sendToQuorum l dd ga n k ad (q_empty (s_tb (s_tb σ 1 i 0) 2 i 0) i) hsq hL i hi 3 (σ.1 2 i) (fun t ht => hcap.1 i t hi ht)) (cwV 3 hts gX4_release_X4_sendToQuorum rfl rfl rfl (by decide +kernel) ⟨Nat.le_of_ble_eq_true rfl, Nat.le_of_ble_eq_true rfl⟩) (qpreV hK hC hC.self rfl) rfl rfl hl.1 rfl (lv_room (Nat.le_of_ble_eq_true rfl)) dX4_release_40 ⟨Nat.zero_le _, Nat.zero_le _⟩) hS (fun q h => h) (fun H locs hp9 hz9 ho9 hS => ?_)
      have hC := hp9
      refine lv_iconst (v := 0) hx hb dX4_release_43 (by decide) ?_
      exact q_iret hx hb hr hlocks hS (by rw [hI, q_release, if_pos c_22]; exact ⟨rfl, hC⟩) dX4_release_44
    · refine lv_iconst (v := 1) hx hb dX4_release_25 (by decide) ?_
      exact q_iret hx hb hr hlocks hS (by rw [hI, q_release, if_neg c_22]; exact ⟨rfl, hC⟩) dX4_release_26
  · refine Met.ofW (cc := cX4_release) (maxL := 4) (ret := (some .int)) (by decide) rfl ?_
    intro p e s m args below meth c s₁ B hml hv
    obtain ⟨rfl, hC, hK⟩ := hv
    have hx := B.exec
    have hb := B.bytes
    have hr := B.returns
    have hts := atoms_spec (ws := wsX4_release) B.pre
    have hown : s.vm.findClass RX4 = some m.cls := findClass_of_methodNamed B.named
    have hlocks := B.notSynchronized
    have hS : qS (qA n ad) s.heap s.heap [] := qS.rf
    have hl := lv_entry ([.ref (ad 0 0), .int x]) (n := 4) (Nat.le_of_ble_eq_true rfl)
    rw [lg_entry_eq]
    generalize (lg_sl ([.ref (ad 0 0), .int x]) ++ List.replicate (4 - (lg_sl ([.ref (ad 0 0), .int x])).length) Slot.unset).toArray = ls at hl ⊢
    have hin0 : ∀ w ∈ wsX00, w ∈ wsX4_release := by decide +kernel
    have hin4 : ∀ w ∈ wsX40, w ∈ wsX4_release := by decide +kernel
    have hn1 := hsq.n.1
    have hn16 := hsq.n.2
    have hI : q_releaseI n k σ x = (-1, σ) := by rw [q_releaseI, if_neg (by rw [hnx]; decide)]
    refine lv_aload_n hx hb dX4_release_0 rfl (lv_at hl 0 rfl) ?_
    refine lv_iload_n hx hb dX4_release_1 rfl (lv_at hl 1 rfl) ?_
    refine qc_i (va_runV (As := [.int x]) (rest := []) ⟨hx, hb, hml, hown, hts⟩ (c_X4_isNode l dd ga n k ad σ hsq hL x) (cwV 1 hts gX4_release_X4_isNode rfl rfl rfl (by decide +kernel) ⟨Nat.le_of_ble_eq_true rfl, Nat.le_of_ble_eq_true rfl⟩) (qpreV hK hC hC.self rfl) rfl rfl hl.1 rfl (lv_room (Nat.le_of_ble_eq_true rfl)) dX4_release_2 ⟨Nat.zero_le _, Nat.zero_le _⟩) hS (fun q h => h.elim) (fun v2 H locs hp9 hz9 ho9 hS => ?_)
    have ev2 : v2 = _ := hp9
    have hC := hC.same (fun q => ho9 q (fun h => h))
    refine lv_if_ne (tgt := 10) hx hb dX4_release_5 (by decide) (fun c_5 => absurd (by rw [ev2, if_neg (by rw [hnx]; decide)]) c_5) (fun c_5 => ?_)
    refine lv_iconst (v := (-1)) hx hb dX4_release_8 (by decide) ?_
    exact q_iret hx hb hr hlocks hS (by rw [hI]; exact ⟨rfl, hC⟩) dX4_release_9
set_option maxHeartbeats 4000000 in
set_option maxRecDepth 100000 in
/-- X4_lockedFor -/
theorem c_X4_lockedFor (l : Launch) (dd : va_G) (ga : Nat → ClassId) (n k : Nat) (ad : Nat → Nat → Nat) (σ : qSt) (hsq : qSq n k) (hL : qL n ad) (x : Int32) : Met l yX4_lockedFor wsX4_lockedFor ({ frames := 1, cells := 0, slots := 0, locals := 21 }) (qPc dd ga [.ref (ad 0 0), .int x] (fun H => qC dd ga n k ad σ H)) (qQi (fun v H => v = q_lockedI n σ x ∧ qC dd ga n k ad σ H) (qA n ad)) 0 0 (qA n ad) := by
  rcases q_nodeC hsq.n.2 x with ⟨hnx, i, hi, rfl⟩ | hnx
  · refine Met.ofW (cc := cX4_lockedFor) (maxL := 2) (ret := (some .int)) (by decide) rfl ?_
    intro p e s m args below meth c s₁ B hml hv
    obtain ⟨rfl, hC, hK⟩ := hv
    have hx := B.exec
    have hb := B.bytes
    have hr := B.returns
    have hts := atoms_spec (ws := wsX4_lockedFor) B.pre
    have hown : s.vm.findClass RX4 = some m.cls := findClass_of_methodNamed B.named
    have hlocks := B.notSynchronized
    have hS : qS (qA n ad) s.heap s.heap [] := qS.rf
    have hl := lv_entry ([.ref (ad 0 0), .int (nI i)]) (n := 2) (Nat.le_of_ble_eq_true rfl)
    rw [lg_entry_eq]
    generalize (lg_sl ([.ref (ad 0 0), .int (nI i)]) ++ List.replicate (2 - (lg_sl ([.ref (ad 0 0), .int (nI i)])).length) Slot.unset).toArray = ls at hl ⊢
    have hin2 : ∀ w ∈ wsX20, w ∈ wsX4_lockedFor := by decide +kernel
    have hin4 : ∀ w ∈ wsX40, w ∈ wsX4_lockedFor := by decide +kernel
    have hn1 := hsq.n.1
    have hn16 := hsq.n.2
    have hI : q_lockedI n σ (nI i) = q_on (σ.2.1 i) := by rw [q_lockedI, if_pos hnx, nI_clamp (by omega)]
    refine lv_aload_n hx hb dX4_lockedFor_0 rfl (lv_at hl 0 rfl) ?_
    refine lv_iload_n hx hb dX4_lockedFor_1 rfl (lv_at hl 1 rfl) ?_
    refine qc_i (va_runV (As := [.int (nI i)]) (rest := []) ⟨hx, hb, hml, hown, hts⟩ (c_X4_isNode l dd ga n k ad σ hsq hL (nI i)) (cwV 1 hts gX4_lockedFor_X4_isNode rfl rfl rfl (by decide +kernel) ⟨Nat.le_of_ble_eq_true rfl, Nat.le_of_ble_eq_true rfl⟩) (qpreV hK hC hC.self rfl) rfl rfl hl.1 rfl (lv_room (Nat.le_of_ble_eq_true rfl)) dX4_lockedFor_2 ⟨Nat.zero_le _, Nat.zero_le _⟩) hS (fun q h => h.elim) (fun v2 H locs hp9 hz9 ho9 hS => ?_)
    have ev2 : v2 = _ := hp9
    have hC := hC.same (fun q => ho9 q (fun h => h))
    refine lv_if_eq (tgt := 20) hx hb dX4_lockedFor_5 (by decide) (fun c_5 => absurd c_5 (by rw [ev2, if_pos hnx]; decide)) (fun c_5 => ?_)
    refine lv_aload_n hx hb dX4_lockedFor_8 rfl (lv_at hl 0 rfl) ?_
    refine qr_get (ci := 4) (C := RX4) (T := TX4) (N := 7) hx hb hts hin4 hown hK hC.self rfl 4 (by decide) (hts (.fieldLink RX4 37 "QuorumLock" "voters" "[LQuorumLock$Voter;") (by decide +kernel)) rfl dX4_lockedFor_9 ?_
    refine lv_iload_n hx hb dX4_lockedFor_12 rfl (lv_at hl 1 rfl) ?_
    refine qr_aald (v := ad 11 i) hx hb hK 3 hC.arV rfl i (by omega) (by omega) rfl rfl dX4_lockedFor_13 ?_
    refine qr_get (ci := 2) (C := RX2) (T := TX2) (N := 4) hx hb hts hin2 hown hK (hC.vot i hi) rfl 1 (by decide) (hts (.fieldLink RX4 103 "QuorumLock$Voter" "lentTo" "I") (by decide +kernel)) rfl dX4_lockedFor_14 ?_
    refine lv_goto (tgt := 21) hx hb dX4_lockedFor_17 (by decide) ?_
    exact q_iret hx hb hr hlocks hS (⟨hI.symm, hC⟩) dX4_lockedFor_21
  · refine Met.ofW (cc := cX4_lockedFor) (maxL := 2) (ret := (some .int)) (by decide) rfl ?_
    intro p e s m args below meth c s₁ B hml hv
    obtain ⟨rfl, hC, hK⟩ := hv
    have hx := B.exec
    have hb := B.bytes
    have hr := B.returns
    have hts := atoms_spec (ws := wsX4_lockedFor) B.pre
    have hown : s.vm.findClass RX4 = some m.cls := findClass_of_methodNamed B.named
    have hlocks := B.notSynchronized
    have hS : qS (qA n ad) s.heap s.heap [] := qS.rf
    have hl := lv_entry ([.ref (ad 0 0), .int x]) (n := 2) (Nat.le_of_ble_eq_true rfl)
    rw [lg_entry_eq]
    generalize (lg_sl ([.ref (ad 0 0), .int x]) ++ List.replicate (2 - (lg_sl ([.ref (ad 0 0), .int x])).length) Slot.unset).toArray = ls at hl ⊢
    have hin2 : ∀ w ∈ wsX20, w ∈ wsX4_lockedFor := by decide +kernel
    have hin4 : ∀ w ∈ wsX40, w ∈ wsX4_lockedFor := by decide +kernel
    have hn1 := hsq.n.1
    have hn16 := hsq.n.2
    have hI : q_lockedI n σ x = -1 := by rw [q_lockedI, if_neg (by rw [hnx]; decide)]
    refine lv_aload_n hx hb dX4_lockedFor_0 rfl (lv_at hl 0 rfl) ?_
    refine lv_iload_n hx hb dX4_lockedFor_1 rfl (lv_at hl 1 rfl) ?_
    refine qc_i (va_runV (As := [.int x]) (rest := []) ⟨hx, hb, hml, hown, hts⟩ (c_X4_isNode l dd ga n k ad σ hsq hL x) (cwV 1 hts gX4_lockedFor_X4_isNode rfl rfl rfl (by decide +kernel) ⟨Nat.le_of_ble_eq_true rfl, Nat.le_of_ble_eq_true rfl⟩) (qpreV hK hC hC.self rfl) rfl rfl hl.1 rfl (lv_room (Nat.le_of_ble_eq_true rfl)) dX4_lockedFor_2 ⟨Nat.zero_le _, Nat.zero_le _⟩) hS (fun q h => h.elim) (fun v2 H locs hp9 hz9 ho9 hS => ?_)
    have ev2 : v2 = _ := hp9
    have hC := hC.same (fun q => ho9 q (fun h => h))
    refine lv_if_eq (tgt := 20) hx hb dX4_lockedFor_5 (by decide) (fun c_5 => ?_) (fun c_5 => absurd (by rw [ev2, if_neg (by rw [hnx]; decide)]) c_5)
    refine lv_iconst (v := (-1)) hx hb dX4_lockedFor_20 (by decide) ?_
    exact q_iret hx hb hr hlocks hS (⟨hI.symm, hC⟩) dX4_lockedFor_21
set_option maxHeartbeats 4000000 in
set_option maxRecDepth 100000 in
/-- X4_waits -/
theorem c_X4_waits (l : Launch) (dd : va_G) (ga : Nat → ClassId) (n k : Nat) (ad : Nat → Nat → Nat) (σ : qSt) (hsq : qSq n k) (hL : qL n ad) (x : Int32) (y : Int32) (hcap : qCap n k σ) : Met l yX4_waits wsX4_waits ({ frames := 1, cells := 0, slots := 0, locals := 21 }) (qPc dd ga [.ref (ad 0 0), .int x, .int y] (fun H => qC dd ga n k ad σ H)) (qQi (fun v H => v = q_waitsI n σ x y ∧ qC dd ga n k ad σ H) (qA n ad)) 0 0 (qA n ad) := by
  rcases q_nodeC hsq.n.2 x with ⟨hnx, i, hi, rfl⟩ | hnx
  · refine Met.ofW (cc := cX4_waits) (maxL := 3) (ret := (some .int)) (by decide) rfl ?_
    intro p e s m args below meth c s₁ B hml hv
    obtain ⟨rfl, hC, hK⟩ := hv
    have hx := B.exec
    have hb := B.bytes
    have hr := B.returns
    have hts := atoms_spec (ws := wsX4_waits) B.pre
    have hown : s.vm.findClass RX4 = some m.cls := findClass_of_methodNamed B.named
    have hlocks := B.notSynchronized
    have hS : qS (qA n ad) s.heap s.heap [] := qS.rf
    have hl := lv_entry ([.ref (ad 0 0), .int (nI i), .int y]) (n := 3) (Nat.le_of_ble_eq_true rfl)
    rw [lg_entry_eq]
    generalize (lg_sl ([.ref (ad 0 0), .int (nI i), .int y]) ++ List.replicate (3 - (lg_sl ([.ref (ad 0 0), .int (nI i), .int y])).length) Slot.unset).toArray = ls at hl ⊢
    have hin2 : ∀ w ∈ wsX20, w ∈ wsX4_waits := by decide +kernel
    have hin4 : ∀ w ∈ wsX40, w ∈ wsX4_waits := by decide +kernel
    have hn1 := hsq.n.1
    have hn16 := hsq.n.2
    have hI : q_waitsI n σ (nI i) y = q_at (σ.2.2.1 i) y := by rw [q_waitsI, if_pos hnx, nI_clamp (by omega)]
    have hk4 := hsq.2.2
    refine lv_aload_n hx hb dX4_waits_0 rfl (lv_at hl 0 rfl) ?_
    refine lv_iload_n hx hb dX4_waits_1 rfl (lv_at hl 1 rfl) ?_
    refine qc_i (va_runV (As := [.int (nI i)]) (rest := []) ⟨hx, hb, hml, hown, hts⟩ (c_X4_isNode l dd ga n k ad σ hsq hL (nI i)) (cwV 1 hts gX4_waits_X4_isNode rfl rfl rfl (by decide +kernel) ⟨Nat.le_of_ble_eq_true rfl, Nat.le_of_ble_eq_true rfl⟩) (qpreV hK hC hC.self rfl) rfl rfl hl.1 rfl (lv_room (Nat.le_of_ble_eq_true rfl)) dX4_waits_2 ⟨Nat.zero_le _, Nat.zero_le _⟩) hS (fun q h => h.elim) (fun v2 H locs hp9 hz9 ho9 hS => ?_)
    have ev2 : v2 = _ := hp9
    have hC := hC.same (fun q => ho9 q (fun h => h))
    refine lv_if_eq (tgt := 24) hx hb dX4_waits_5 (by decide) (fun c_5 => absurd c_5 (by rw [ev2, if_pos hnx]; decide)) (fun c_5 => ?_)
    refine lv_aload_n hx hb dX4_waits_8 rfl (lv_at hl 0 rfl) ?_
    refine qr_get (ci := 4) (C := RX4) (T := TX4) (N := 7) hx hb hts hin4 hown hK hC.self rfl 4 (by decide) (hts (.fieldLink RX4 37 "QuorumLock" "voters" "[LQuorumLock$Voter;") (by decide +kernel)) rfl dX4_waits_9 ?_
    refine lv_iload_n hx hb dX4_waits_12 rfl (lv_at hl 1 rfl) ?_
    refine qr_aald (v := ad 11 i) hx hb hK 3 hC.arV rfl i (by omega) (by omega) rfl rfl dX4_waits_13 ?_
    refine qr_get (ci := 2) (C := RX2) (T := TX2) (N := 4) hx hb hts hin2 hown hK (hC.vot i hi) rfl 0 (by decide) (hts (.fieldLink RX4 130 "QuorumLock$Voter" "row" "LQuorumLock$Row;") (by decide +kernel)) rfl dX4_waits_14 ?_
    refine lv_iload_n hx hb dX4_waits_17 rfl (lv_at hl 2 rfl) ?_
    refine qc_i (va_runV (As := [.int y]) (rest := []) ⟨hx, hb, hml, hown, hts⟩ (c_X1_nodeAt l dd ga (2 * k - 1) (ad 12 i) (ad 13 i) (ad 14 i) (σ.2.2.1 i) (by omega) (by have := hcap.2.1 i hi; omega) y) (cwV 1 hts gX4_waits_X1_nodeAt rfl rfl rfl (by decide +kernel) ⟨Nat.le_of_ble_eq_true rfl, Nat.le_of_ble_eq_true rfl⟩) (qpreV hK (hC.row i hi) ((hC.row i hi).obj) rfl) rfl rfl hl.1 rfl (lv_room (Nat.le_of_ble_eq_true rfl)) dX4_waits_18 ⟨Nat.zero_le _, Nat.zero_le _⟩) hS (fun q h => h.elim) (fun v18 H locs hp9 hz9 ho9 hS => ?_)
    subst hp9
    have hC := hC.same (fun q => ho9 q (fun h => h))
    refine lv_goto (tgt := 25) hx hb dX4_waits_21 (by decide) ?_
    exact q_iret hx hb hr hlocks hS (⟨hI.symm, hC⟩) dX4_waits_25
  · refine Met.ofW (cc := cX4_waits) (maxL := 3) (ret := (some .int)) (by decide) rfl ?_
    intro p e s m args below meth c s₁ B hml hv
    obtain ⟨rfl, hC, hK⟩ := hv
    have hx := B.exec
    have hb := B.bytes
    have hr := B.returns
    have hts := atoms_spec (ws := wsX4_waits) B.pre
    have hown : s.vm.findClass RX4 = some m.cls := findClass_of_methodNamed B.named
    have hlocks := B.notSynchronized
    have hS : qS (qA n ad) s.heap s.heap [] := qS.rf
    have hl := lv_entry ([.ref (ad 0 0), .int x, .int y]) (n := 3) (Nat.le_of_ble_eq_true rfl)
    rw [lg_entry_eq]
    generalize (lg_sl ([.ref (ad 0 0), .int x, .int y]) ++ List.replicate (3 - (lg_sl ([.ref (ad 0 0), .int x, .int y])).length) Slot.unset).toArray = ls at hl ⊢
    have hin2 : ∀ w ∈ wsX20, w ∈ wsX4_waits := by decide +kernel
    have hin4 : ∀ w ∈ wsX40, w ∈ wsX4_waits := by decide +kernel
    have hn1 := hsq.n.1
    have hn16 := hsq.n.2
    have hI : q_waitsI n σ x y = -1 := by rw [q_waitsI, if_neg (by rw [hnx]; decide)]
    refine lv_aload_n hx hb dX4_waits_0 rfl (lv_at hl 0 rfl) ?_
    refine lv_iload_n hx hb dX4_waits_1 rfl (lv_at hl 1 rfl) ?_
    refine qc_i (va_runV (As := [.int x]) (rest := []) ⟨hx, hb, hml, hown, hts⟩ (c_X4_isNode l dd ga n k ad σ hsq hL x) (cwV 1 hts gX4_waits_X4_isNode rfl rfl rfl (by decide +kernel) ⟨Nat.le_of_ble_eq_true rfl, Nat.le_of_ble_eq_true rfl⟩) (qpreV hK hC hC.self rfl) rfl rfl hl.1 rfl (lv_room (Nat.le_of_ble_eq_true rfl)) dX4_waits_2 ⟨Nat.zero_le _, Nat.zero_le _⟩) hS (fun q h => h.elim) (fun v2 H locs hp9 hz9 ho9 hS => ?_)
    have ev2 : v2 = _ := hp9
    have hC := hC.same (fun q => ho9 q (fun h => h))
    refine lv_if_eq (tgt := 24) hx hb dX4_waits_5 (by decide) (fun c_5 => ?_) (fun c_5 => absurd (by rw [ev2, if_neg (by rw [hnx]; decide)]) c_5)
    refine lv_iconst (v := (-1)) hx hb dX4_waits_24 (by decide) ?_
    exact q_iret hx hb hr hlocks hS (⟨hI.symm, hC⟩) dX4_waits_25
set_option maxHeartbeats 4000000 in
set_option maxRecDepth 100000 in
/-- X4_told -/
theorem c_X4_told (l : Launch) (dd : va_G) (ga : Nat → ClassId) (n k : Nat) (ad : Nat → Nat → Nat) (σ : qSt) (hsq : qSq n k) (hL : qL n ad) (x : Int32) (y : Int32) : Met l yX4_told wsX4_told ({ frames := 1, cells := 0, slots := 0, locals := 21 }) (qPc dd ga [.ref (ad 0 0), .int x, .int y] (fun H => qC dd ga n k ad σ H)) (qQi (fun v H => v = q_toldI n σ x y ∧ qC dd ga n k ad σ H) (qA n ad)) 0 0 (qA n ad) := by
  rcases q_nodeC hsq.n.2 x with ⟨hnx, i, hi, rfl⟩ | hnx
  · refine Met.ofW (cc := cX4_told) (maxL := 5) (ret := (some .int)) (by decide) rfl ?_
    intro p e s m args below meth c s₁ B hml hv
    obtain ⟨rfl, hC, hK⟩ := hv
    have hx := B.exec
    have hb := B.bytes
    have hr := B.returns
    have hts := atoms_spec (ws := wsX4_told) B.pre
    have hown : s.vm.findClass RX4 = some m.cls := findClass_of_methodNamed B.named
    have hlocks := B.notSynchronized
    have hS : qS (qA n ad) s.heap s.heap [] := qS.rf
    have hl := lv_entry ([.ref (ad 0 0), .int (nI i), .int y]) (n := 5) (Nat.le_of_ble_eq_true rfl)
    rw [lg_entry_eq]
    generalize (lg_sl ([.ref (ad 0 0), .int (nI i), .int y]) ++ List.replicate (5 - (lg_sl ([.ref (ad 0 0), .int (nI i), .int y])).length) Slot.unset).toArray = ls at hl ⊢
    have hin0 : ∀ w ∈ wsX00, w ∈ wsX4_told := by decide +kernel
    have hin1 : ∀ w ∈ wsX10, w ∈ wsX4_told := by decide +kernel
    have hin2 : ∀ w ∈ wsX20, w ∈ wsX4_told := by decide +kernel
    have hin4 : ∀ w ∈ wsX40, w ∈ wsX4_told := by decide +kernel
    have hn1 := hsq.n.1
    have hn16 := hsq.n.2
    have hI : q_toldI n σ (nI i) y = q_told σ i y := by rw [q_toldI, if_pos hnx, nI_clamp (by omega)]
    refine lv_aload_n hx hb dX4_told_0 rfl (lv_at hl 0 rfl) ?_
    refine lv_iload_n hx hb dX4_told_1 rfl (lv_at hl 1 rfl) ?_
    refine qc_i (va_runV (As := [.int (nI i)]) (rest := []) ⟨hx, hb, hml, hown, hts⟩ (c_X4_isNode l dd ga n k ad σ hsq hL (nI i)) (cwV 1 hts gX4_told_X4_isNode rfl rfl rfl (by decide +kernel) ⟨Nat.le_of_ble_eq_true rfl, Nat.le_of_ble_eq_true rfl⟩) (qpreV hK hC hC.self rfl) rfl rfl hl.1 rfl (lv_room (Nat.le_of_ble_eq_true rfl)) dX4_told_2 ⟨Nat.zero_le _, Nat.zero_le _⟩) hS (fun q h => h.elim) (fun v2 H locs hp9 hz9 ho9 hS => ?_)
    have ev2 : v2 = _ := hp9
    have hC := hC.same (fun q => ho9 q (fun h => h))
    refine lv_if_ne (tgt := 10) hx hb dX4_told_5 (by decide) (fun c_5 => ?_) (fun c_5 => absurd c_5 (by rw [ev2, if_pos hnx]; decide))
    refine lv_aload_n hx hb dX4_told_10 rfl (lv_at hl 0 rfl) ?_
    refine qr_get (ci := 4) (C := RX4) (T := TX4) (N := 7) hx hb hts hin4 hown hK hC.self rfl 3 (by decide) (hts (.fieldLink RX4 31 "QuorumLock" "askers" "[LQuorumLock$Asker;") (by decide +kernel)) rfl dX4_told_11 ?_
    refine lv_iload_n hx hb dX4_told_14 rfl (lv_at hl 1 rfl) ?_
    refine qr_aald (v := ad 10 i) hx hb hK 2 hC.arA rfl i (by omega) (by omega) rfl rfl dX4_told_15 ?_
    refine lv_astore_n (lv' := [(3, .ref (ad 10 i)), (0, .ref (ad 0 0)), (1, .int (nI i)), (2, .int y)]) hx hb dX4_told_16 rfl hl (by decide) rfl (fun ls hl => ?_)
    refine lv_aload_n hx hb dX4_told_17 rfl (lv_at hl 1 rfl) ?_
    refine qr_get (ci := 4) (C := RX4) (T := TX4) (N := 7) hx hb hts hin4 hown hK hC.self rfl 4 (by decide) (hts (.fieldLink RX4 37 "QuorumLock" "voters" "[LQuorumLock$Voter;") (by decide +kernel)) rfl dX4_told_18 ?_
    refine lv_iload_n hx hb dX4_told_21 rfl (lv_at hl 2 rfl) ?_
    refine qr_aald (v := ad 11 i) hx hb hK 3 hC.arV rfl i (by omega) (by omega) rfl rfl dX4_told_22 ?_
    refine lv_astore (lv' := [(4, .ref (ad 11 i)), (3, .ref (ad 10 i)), (0, .ref (ad 0 0)), (1, .int (nI i)), (2, .int y)]) hx hb dX4_told_23 hl (by decide) rfl (fun ls hl => ?_)
    refine lv_iload_n hx hb dX4_told_25 rfl (lv_at hl 4 rfl) ?_
    by_cases hk0 : y = 0
    · refine q_ti (y := 0) hk0 ?_
      refine lv_tableIn (tgt := 72) hx hb dX4_told_26 (by decide) (by decide) rfl (by decide) ?_
      have hT := hI
      rw [q_told, if_pos hk0] at hT
      refine lv_aload_n hx hb dX4_told_72 rfl (lv_at hl 1 rfl) ?_
      refine qr_get (ci := 0) (C := RX0) (T := TX0) (N := 5) hx hb hts hin0 hown hK (hC.ask i hi) rfl 0 (by decide) (hts (.fieldLink RX4 74 "QuorumLock$Asker" "state" "I") (by decide +kernel)) rfl dX4_told_73 ?_
      exact q_iret hx hb hr hlocks hS ⟨hT.symm, hC⟩ dX4_told_76
    · by_cases hk1 : y = 1
      · refine q_ti (y := 1) hk1 ?_
        refine lv_tableIn (tgt := 77) hx hb dX4_told_26 (by decide) (by decide) rfl (by decide) ?_
        have hT := hI
        rw [q_told, if_neg hk0, if_pos hk1] at hT
        refine lv_aload_n hx hb dX4_told_77 rfl (lv_at hl 2 rfl) ?_
        refine qr_get (ci := 4) (C := RX4) (T := TX4) (N := 7) hx hb hts hin4 hown hK hC.self rfl 2 (by decide) (hts (.fieldLink RX4 26 "QuorumLock" "clocks" "[I") (by decide +kernel)) rfl dX4_told_78 ?_
        refine lv_iload_n hx hb dX4_told_81 rfl (lv_at hl 3 rfl) ?_
        refine qr_iald (v := (σ.1 0 i)) hx hb hK hC.clk i (by omega) (by omega) rfl rfl dX4_told_82 ?_
        exact q_iret hx hb hr hlocks hS ⟨hT.symm, hC⟩ dX4_told_83
      · by_cases hk2 : y = 2
        · refine q_ti (y := 2) hk2 ?_
          refine lv_tableIn (tgt := 84) hx hb dX4_told_26 (by decide) (by decide) rfl (by decide) ?_
          have hT := hI
          rw [q_told, if_neg hk0, if_neg hk1, if_pos hk2] at hT
          refine lv_aload_n hx hb dX4_told_84 rfl (lv_at hl 1 rfl) ?_
          refine qr_get (ci := 0) (C := RX0) (T := TX0) (N := 5) hx hb hts hin0 hown hK (hC.ask i hi) rfl 1 (by decide) (hts (.fieldLink RX4 80 "QuorumLock$Asker" "time" "I") (by decide +kernel)) rfl dX4_told_85 ?_
          exact q_iret hx hb hr hlocks hS ⟨hT.symm, hC⟩ dX4_told_88
        · by_cases hk3 : y = 3
          · refine q_ti (y := 3) hk3 ?_
            refine lv_tableIn (tgt := 89) hx hb dX4_told_26 (by decide) (by decide) rfl (by decide) ?_
            have hT := hI
            rw [q_told, if_neg hk0, if_neg hk1, if_neg hk2, if_pos hk3] at hT
            refine lv_aload_n hx hb dX4_told_89 rfl (lv_at hl 1 rfl) ?_
            refine qr_get (ci := 0) (C := RX0) (T := TX0) (N := 5) hx hb hts hin0 hown hK (hC.ask i hi) rfl 3 (by decide) (hts (.fieldLink RX4 120 "QuorumLock$Asker" "failures" "I") (by decide +kernel)) rfl dX4_told_90 ?_
            exact q_iret hx hb hr hlocks hS ⟨hT.symm, hC⟩ dX4_told_93
          · by_cases hk4 : y = 4
            · refine q_ti (y := 4) hk4 ?_
              refine lv_tableIn (tgt := 94) hx hb dX4_told_26 (by decide) (by decide) rfl (by decide) ?_
              have hT := hI
              rw [q_told, if_neg hk0, if_neg hk1, if_neg hk2, if_neg hk3, if_pos hk4] at hT
              refine lv_aload_n hx hb dX4_told_94 rfl (lv_at hl 1 rfl) ?_
              refine qr_get (ci := 0) (C := RX0) (T := TX0) (N := 5) hx hb hts hin0 hown hK (hC.ask i hi) rfl 4 (by decide) (hts (.fieldLink RX4 123 "QuorumLock$Asker" "inquiries" "I") (by decide +kernel)) rfl dX4_told_95 ?_
              exact q_iret hx hb hr hlocks hS ⟨hT.symm, hC⟩ dX4_told_98
            · by_cases hk5 : y = 5
              · refine q_ti (y := 5) hk5 ?_
                refine lv_tableIn (tgt := 99) hx hb dX4_told_26 (by decide) (by decide) rfl (by decide) ?_
                have hT := hI
                rw [q_told, if_neg hk0, if_neg hk1, if_neg hk2, if_neg hk3, if_neg hk4, if_pos hk5] at hT
                refine lv_aload_n hx hb dX4_told_99 rfl (lv_at hl 1 rfl) ?_
                refine qr_get (ci := 0) (C := RX0) (T := TX0) (N := 5) hx hb hts hin0 hown hK (hC.ask i hi) rfl 2 (by decide) (hts (.fieldLink RX4 94 "QuorumLock$Asker" "votes" "I") (by decide +kernel)) rfl dX4_told_100 ?_
                exact q_iret hx hb hr hlocks hS ⟨hT.symm, hC⟩ dX4_told_103
              · by_cases hk6 : y = 6
                · refine q_ti (y := 6) hk6 ?_
                  refine lv_tableIn (tgt := 104) hx hb dX4_told_26 (by decide) (by decide) rfl (by decide) ?_
                  have hT := hI
                  rw [q_told, if_neg hk0, if_neg hk1, if_neg hk2, if_neg hk3, if_neg hk4, if_neg hk5, if_pos hk6] at hT
                  refine lv_aload hx hb dX4_told_104 (lv_at hl 0 rfl) ?_
                  refine qr_get (ci := 2) (C := RX2) (T := TX2) (N := 4) hx hb hts hin2 hown hK (hC.vot i hi) rfl 3 (by decide) (hts (.fieldLink RX4 126 "QuorumLock$Voter" "inquired" "Z") (by decide +kernel)) rfl dX4_told_106 ?_
                  refine lv_if_eq (tgt := 116) hx hb dX4_told_109 (by decide) (fun c_109 => ?_) (fun c_109 => ?_)
                  · refine lv_iconst (v := 0) hx hb dX4_told_116 (by decide) ?_
                    exact q_iret hx hb hr hlocks hS ⟨by rw [hT]; first | rw [if_pos c_109] | rw [if_neg c_109], hC⟩ dX4_told_117
                  · refine lv_iconst (v := 1) hx hb dX4_told_112 (by decide) ?_
                    refine lv_goto (tgt := 117) hx hb dX4_told_113 (by decide) ?_
                    exact q_iret hx hb hr hlocks hS ⟨by rw [hT]; first | rw [if_pos c_109] | rw [if_neg c_109], hC⟩ dX4_told_117
                · by_cases hk7 : y = 7
                  · refine q_ti (y := 7) hk7 ?_
                    refine lv_tableIn (tgt := 118) hx hb dX4_told_26 (by decide) (by decide) rfl (by decide) ?_
                    have hT := hI
                    rw [q_told, if_neg hk0, if_neg hk1, if_neg hk2, if_neg hk3, if_neg hk4, if_neg hk5, if_neg hk6, if_pos hk7] at hT
                    refine lv_aload hx hb dX4_told_118 (lv_at hl 0 rfl) ?_
                    refine qr_get (ci := 2) (C := RX2) (T := TX2) (N := 4) hx hb hts hin2 hown hK (hC.vot i hi) rfl 0 (by decide) (hts (.fieldLink RX4 130 "QuorumLock$Voter" "row" "LQuorumLock$Row;") (by decide +kernel)) rfl dX4_told_120 ?_
                    refine qr_get (ci := 1) (C := RX1) (T := TX1) (N := 3) hx hb hts hin1 hown hK ((hC.row i hi).obj) rfl 2 (by decide) (hts (.fieldLink RX4 134 "QuorumLock$Row" "length" "I") (by decide +kernel)) rfl dX4_told_123 ?_
                    exact q_iret hx hb hr hlocks hS ⟨hT.symm, hC⟩ dX4_told_126
                  · refine lv_tableOut (tgt := 127) hx hb dX4_told_26 (q_sw8 hk0 hk1 hk2 hk3 hk4 hk5 hk6 hk7) (by decide) ?_
                    have hT := hI
                    rw [q_told, if_neg hk0, if_neg hk1, if_neg hk2, if_neg hk3, if_neg hk4, if_neg hk5, if_neg hk6, if_neg hk7] at hT
                    refine lv_iconst (v := (-1)) hx hb dX4_told_127 (by decide) ?_
                    exact q_iret hx hb hr hlocks hS ⟨hT.symm, hC⟩ dX4_told_128
  · refine Met.ofW (cc := cX4_told) (maxL := 5) (ret := (some .int)) (by decide) rfl ?_
    intro p e s m args below meth c s₁ B hml hv
    obtain ⟨rfl, hC, hK⟩ := hv
    have hx := B.exec
    have hb := B.bytes
    have hr := B.returns
    have hts := atoms_spec (ws := wsX4_told) B.pre
    have hown : s.vm.findClass RX4 = some m.cls := findClass_of_methodNamed B.named
    have hlocks := B.notSynchronized
    have hS : qS (qA n ad) s.heap s.heap [] := qS.rf
    have hl := lv_entry ([.ref (ad 0 0), .int x, .int y]) (n := 5) (Nat.le_of_ble_eq_true rfl)
    rw [lg_entry_eq]
    generalize (lg_sl ([.ref (ad 0 0), .int x, .int y]) ++ List.replicate (5 - (lg_sl ([.ref (ad 0 0), .int x, .int y])).length) Slot.unset).toArray = ls at hl ⊢
    have hin0 : ∀ w ∈ wsX00, w ∈ wsX4_told := by decide +kernel
    have hin1 : ∀ w ∈ wsX10, w ∈ wsX4_told := by decide +kernel
    have hin2 : ∀ w ∈ wsX20, w ∈ wsX4_told := by decide +kernel
    have hin4 : ∀ w ∈ wsX40, w ∈ wsX4_told := by decide +kernel
    have hn1 := hsq.n.1
    have hn16 := hsq.n.2
    have hI : q_toldI n σ x y = -1 := by rw [q_toldI, if_neg (by rw [hnx]; decide)]
    refine lv_aload_n hx hb dX4_told_0 rfl (lv_at hl 0 rfl) ?_
    refine lv_iload_n hx hb dX4_told_1 rfl (lv_at hl 1 rfl) ?_
    refine qc_i (va_runV (As := [.int x]) (rest := []) ⟨hx, hb, hml, hown, hts⟩ (c_X4_isNode l dd ga n k ad σ hsq hL x) (cwV 1 hts gX4_told_X4_isNode rfl rfl rfl (by decide +kernel) ⟨Nat.le_of_ble_eq_true rfl, Nat.le_of_ble_eq_true rfl⟩) (qpreV hK hC hC.self rfl) rfl rfl hl.1 rfl (lv_room (Nat.le_of_ble_eq_true rfl)) dX4_told_2 ⟨Nat.zero_le _, Nat.zero_le _⟩) hS (fun q h => h.elim) (fun v2 H locs hp9 hz9 ho9 hS => ?_)
    have ev2 : v2 = _ := hp9
    have hC := hC.same (fun q => ho9 q (fun h => h))
    refine lv_if_ne (tgt := 10) hx hb dX4_told_5 (by decide) (fun c_5 => absurd (by rw [ev2, if_neg (by rw [hnx]; decide)]) c_5) (fun c_5 => ?_)
    refine lv_iconst (v := (-1)) hx hb dX4_told_8 (by decide) ?_
    exact q_iret hx hb hr hlocks hS (⟨hI.symm, hC⟩) dX4_told_9
set_option maxHeartbeats 4000000 in
set_option maxRecDepth 100000 in
/-- X4_entered -/
theorem c_X4_entered (l : Launch) (dd : va_G) (ga : Nat → ClassId) (n k : Nat) (ad : Nat → Nat → Nat) (σ : qSt) (hsq : qSq n k) (hL : qL n ad) : Met l yX4_entered wsX4_entered ({ frames := 0, cells := 0, slots := 0, locals := 0 }) (qPc dd ga [.ref (ad 0 0)] (fun H => qC dd ga n k ad σ H)) (qQi (fun v H => v = σ.2.2.2.2 ∧ qC dd ga n k ad σ H) (qA n ad)) 0 0 (qA n ad) := by
  refine Met.ofW (cc := cX4_entered) (maxL := 1) (ret := (some .int)) (by decide) rfl ?_
  intro p e s m args below meth c s₁ B hml hv
  obtain ⟨rfl, hC, hK⟩ := hv
  have hx := B.exec
  have hb := B.bytes
  have hr := B.returns
  have hts := atoms_spec (ws := wsX4_entered) B.pre
  have hown : s.vm.findClass RX4 = some m.cls := findClass_of_methodNamed B.named
  have hlocks := B.notSynchronized
  have hS : qS (qA n ad) s.heap s.heap [] := qS.rf
  have hl := lv_entry ([.ref (ad 0 0)]) (n := 1) (Nat.le_of_ble_eq_true rfl)
  rw [lg_entry_eq]
  generalize (lg_sl ([.ref (ad 0 0)]) ++ List.replicate (1 - (lg_sl ([.ref (ad 0 0)])).length) Slot.unset).toArray = ls at hl ⊢
  have hin4 : ∀ w ∈ wsX40, w ∈ wsX4_entered := by decide +kernel
  have hn1 := hsq.n.1
  have hn16 := hsq.n.2
  refine lv_aload_n hx hb dX4_entered_0 rfl (lv_at hl 0 rfl) ?_
  refine qr_get (ci := 4) (C := RX4) (T := TX4) (N := 7) hx hb hts hin4 hown hK hC.self rfl 6 (by decide) (hts (.fieldLink RX4 67 "QuorumLock" "entries" "I") (by decide +kernel)) rfl dX4_entered_1 ?_
  exact q_iret hx hb hr hlocks hS (⟨rfl, hC⟩) dX4_entered_4
set_option maxHeartbeats 4000000 in
set_option maxRecDepth 100000 in
/-- X4_holder -/
theorem c_X4_holder (l : Launch) (dd : va_G) (ga : Nat → ClassId) (n k : Nat) (ad : Nat → Nat → Nat) (σ : qSt) (hsq : qSq n k) (hL : qL n ad) : Met l yX4_holder wsX4_holder ({ frames := 0, cells := 0, slots := 0, locals := 0 }) (qPc dd ga [.ref (ad 0 0)] (fun H => qC dd ga n k ad σ H)) (qQi (fun v H => v = q_holder σ n 0 ∧ qC dd ga n k ad σ H) (qA n ad)) 0 0 (qA n ad) := by
  refine Met.ofW (cc := cX4_holder) (maxL := 2) (ret := (some .int)) (by decide) rfl ?_
  intro p e s m args below meth c s₁ B hml hv
  obtain ⟨rfl, hC, hK⟩ := hv
  have hx := B.exec
  have hb := B.bytes
  have hr := B.returns
  have hts := atoms_spec (ws := wsX4_holder) B.pre
  have hown : s.vm.findClass RX4 = some m.cls := findClass_of_methodNamed B.named
  have hlocks := B.notSynchronized
  have hS : qS (qA n ad) s.heap s.heap [] := qS.rf
  have hl := lv_entry ([.ref (ad 0 0)]) (n := 2) (Nat.le_of_ble_eq_true rfl)
  rw [lg_entry_eq]
  generalize (lg_sl ([.ref (ad 0 0)]) ++ List.replicate (2 - (lg_sl ([.ref (ad 0 0)])).length) Slot.unset).toArray = ls at hl ⊢
  have hin0 : ∀ w ∈ wsX00, w ∈ wsX4_holder := by decide +kernel
  have hin4 : ∀ w ∈ wsX40, w ∈ wsX4_holder := by decide +kernel
  have hn1 := hsq.n.1
  have hn16 := hsq.n.2
  have hloop : ∀ (c9 i9 : Nat) (ls : Array Slot), i9 + c9 = n → q_holder σ n 0 = q_holder σ c9 i9 → lv_has ls 2 [(1, .int (nI i9)), (0, .ref (ad 0 0))] → W p l e (headSpec wsX4_holder ({ frames := 0, cells := 0, slots := 0, locals := 0 })).room s m (([.ref (ad 0 0)] : List Value).toArray) below meth c s.heap [] 0 0 (MQ below (qQi (fun v H => v = q_holder σ n 0 ∧ qC dd ga n k ad σ H) (qA n ad)) (([.ref (ad 0 0)] : List Value).toArray) s 0 0 (qA n ad)) (F0 m 2 ls []) := by
    intro c9
    induction c9 with
    | zero =>
      intro i9 ls hc he hl
      refine lv_iload_n hx hb dX4_holder_2 rfl (lv_at hl 0 rfl) ?_
      refine lv_aload_n hx hb dX4_holder_3 rfl (lv_at hl 1 rfl) ?_
      refine qr_get (ci := 4) (C := RX4) (T := TX4) (N := 7) hx hb hts hin4 hown hK hC.self rfl 0 (by decide) (hts (.fieldLink RX4 18 "QuorumLock" "nodes" "I") (by decide +kernel)) rfl dX4_holder_4 ?_
      refine lv_icmp_ge (tgt := 31) hx hb dX4_holder_7 (by decide) (fun c_7 => ?_) (fun c_7 => absurd (nI_le (show n ≤ i9 by omega) (by omega)) c_7)
      refine lv_iconst (v := (-1)) hx hb dX4_holder_31 (by decide) ?_
      exact q_iret hx hb hr hlocks hS (⟨he.symm, hC⟩) dX4_holder_32
    | succ c9 ih =>
      intro i9 ls hc he hl
      have hi9 : i9 < n := by omega
      refine lv_iload_n hx hb dX4_holder_2 rfl (lv_at hl 0 rfl) ?_
      refine lv_aload_n hx hb dX4_holder_3 rfl (lv_at hl 1 rfl) ?_
      refine qr_get (ci := 4) (C := RX4) (T := TX4) (N := 7) hx hb hts hin4 hown hK hC.self rfl 0 (by decide) (hts (.fieldLink RX4 18 "QuorumLock" "nodes" "I") (by decide +kernel)) rfl dX4_holder_4 ?_
      refine lv_icmp_ge (tgt := 31) hx hb dX4_holder_7 (by decide) (fun c_7 => absurd c_7 (nI_ge (by omega) (by omega))) (fun c_7 => ?_)
      refine lv_aload_n hx hb dX4_holder_10 rfl (lv_at hl 1 rfl) ?_
      refine qr_get (ci := 4) (C := RX4) (T := TX4) (N := 7) hx hb hts hin4 hown hK hC.self rfl 3 (by decide) (hts (.fieldLink RX4 31 "QuorumLock" "askers" "[LQuorumLock$Asker;") (by decide +kernel)) rfl dX4_holder_11 ?_
      refine lv_iload_n hx hb dX4_holder_14 rfl (lv_at hl 0 rfl) ?_
      refine qr_aald (v := ad 10 i9) hx hb hK 2 hC.arA rfl i9 (by omega) (by omega) rfl rfl dX4_holder_15 ?_
      refine qr_get (ci := 0) (C := RX0) (T := TX0) (N := 5) hx hb hts hin0 hown hK (hC.ask i9 hi9) rfl 0 (by decide) (hts (.fieldLink RX4 74 "QuorumLock$Asker" "state" "I") (by decide +kernel)) rfl dX4_holder_16 ?_
      refine lv_iconst (v := 2) hx hb dX4_holder_19 (by decide) ?_
      refine lv_icmp_ne (tgt := 25) hx hb dX4_holder_20 (by decide) (fun c_20 => ?_) (fun c_20 => ?_)
      · refine lv_iinc (v := nI (i9 + 1)) (lv' := [(1, .int (nI (i9 + 1))), (0, .ref (ad 0 0))]) hx hb dX4_holder_25 hl (k := 0) rfl (nI_1 _) (by decide) rfl (fun ls hl => ?_)
        refine lv_goto (tgt := 2) hx hb dX4_holder_28 (by decide) ?_
        exact ih (i9 + 1) ls (by omega) (by rw [he, q_holder, if_neg c_20]) (lv_sub hl [0, 1] rfl)
      · refine lv_iload_n hx hb dX4_holder_23 rfl (lv_at hl 0 rfl) ?_
        exact q_iret hx hb hr hlocks hS (⟨by rw [he, q_holder, if_pos c_20], hC⟩) dX4_holder_24
  refine lv_iconst (v := nI 0) hx hb dX4_holder_0 (by decide) ?_
  refine lv_istore_n (lv' := [(1, .int (nI 0)), (0, .ref (ad 0 0))]) hx hb dX4_holder_1 rfl hl (by decide) rfl (fun ls hl => ?_)
  exact hloop n 0 ls (by omega) rfl (lv_sub hl [0, 1] rfl)
set_option maxHeartbeats 4000000 in
set_option maxRecDepth 100000 in
/-- X4_waiting -/
theorem c_X4_waiting (l : Launch) (dd : va_G) (ga : Nat → ClassId) (n k : Nat) (ad : Nat → Nat → Nat) (σ : qSt) (hsq : qSq n k) (hL : qL n ad) (x y : Int32) : Met l yX4_waiting wsX4_waiting ({ frames := 2, cells := 0, slots := 0, locals := 44 }) (qPc dd ga [.ref (ad 0 0), .int x, .int y] (fun H => qC dd ga n k ad σ H)) (qQi (fun v H => v = q_waitingI n σ x y ∧ qC dd ga n k ad σ H) (qA n ad)) 0 0 (qA n ad) := by
  by_cases hnx : q_node n x = true ∧ q_node n y = true
  · obtain ⟨f, hf, rfl⟩ : ∃ f : Nat, f < n ∧ x = nI f := by
      rcases q_nodeC hsq.n.2 x with h | h
      · exact h.2
      · rw [h] at hnx; exact absurd hnx.1 (by decide)
    obtain ⟨t, ht, rfl⟩ : ∃ t : Nat, t < n ∧ y = nI t := by
      rcases q_nodeC hsq.n.2 y with h | h
      · exact h.2
      · rw [h] at hnx; exact absurd hnx.2 (by decide)
    refine Met.ofW (cc := cX4_waiting) (maxL := 3) (ret := (some .int)) (by decide) rfl ?_
    intro p e s m args below meth c s₁ B hml hv
    obtain ⟨rfl, hC, hK⟩ := hv
    have hx := B.exec
    have hb := B.bytes
    have hr := B.returns
    have hts := atoms_spec (ws := wsX4_waiting) B.pre
    have hown : s.vm.findClass RX4 = some m.cls := findClass_of_methodNamed B.named
    have hlocks := B.notSynchronized
    have hS : qS (qA n ad) s.heap s.heap [] := qS.rf
    have hl := lv_entry ([.ref (ad 0 0), .int (nI f), .int (nI t)]) (n := 3) (Nat.le_of_ble_eq_true rfl)
    rw [lg_entry_eq]
    generalize (lg_sl ([.ref (ad 0 0), .int (nI f), .int (nI t)]) ++ List.replicate (3 - (lg_sl ([.ref (ad 0 0), .int (nI f), .int (nI t)])).length) Slot.unset).toArray = ls at hl ⊢
    have hin4 : ∀ w ∈ wsX40, w ∈ wsX4_waiting := by decide +kernel
    have hn1 := hsq.n.1
    have hn16 := hsq.n.2
    have hI : q_waitingI n σ (nI f) (nI t) = nI (σ.2.2.2.1 f t).length := by rw [q_waitingI, if_pos hnx, nI_clamp (by omega), nI_clamp (by omega)]
    refine lv_aload_n hx hb dX4_waiting_0 rfl (lv_at hl 0 rfl) ?_
    refine lv_iload_n hx hb dX4_waiting_1 rfl (lv_at hl 1 rfl) ?_
    refine lv_iload_n hx hb dX4_waiting_2 rfl (lv_at hl 2 rfl) ?_
    refine qc_i (va_runV (As := [.int (nI f), .int (nI t)]) (rest := []) ⟨hx, hb, hml, hown, hts⟩ (c_X4_isWire l dd ga n k ad σ hsq hL (nI f) (nI t)) (cwV 2 hts gX4_waiting_X4_isWire rfl rfl rfl (by decide +kernel) ⟨Nat.le_of_ble_eq_true rfl, Nat.le_of_ble_eq_true rfl⟩) (qpreV hK hC hC.self rfl) rfl rfl hl.1 rfl (lv_room (Nat.le_of_ble_eq_true rfl)) dX4_waiting_3 ⟨Nat.zero_le _, Nat.zero_le _⟩) hS (fun q h => h.elim) (fun v3 H locs hp9 hz9 ho9 hS => ?_)
    have ev3 : v3 = _ := hp9
    have hC := hC.same (fun q => ho9 q (fun h => h))
    refine lv_if_eq (tgt := 21) hx hb dX4_waiting_6 (by decide) (fun c_6 => absurd c_6 (by rw [ev3, if_pos hnx]; decide)) (fun c_6 => ?_)
    refine lv_aload_n hx hb dX4_waiting_9 rfl (lv_at hl 0 rfl) ?_
    refine qr_get (ci := 4) (C := RX4) (T := TX4) (N := 7) hx hb hts hin4 hown hK hC.self rfl 5 (by decide) (hts (.fieldLink RX4 46 "QuorumLock" "wires" "LQuorumLock$Wires;") (by decide +kernel)) rfl dX4_waiting_10 ?_
    refine lv_iload_n hx hb dX4_waiting_13 rfl (lv_at hl 1 rfl) ?_
    refine lv_iload_n hx hb dX4_waiting_14 rfl (lv_at hl 2 rfl) ?_
    refine qc_i (va_runV (As := [.int (nI f), .int (nI t)]) (rest := []) ⟨hx, hb, hml, hown, hts⟩ (c_X3_count l dd ga n (ad 5 0) (ad 6 0) (ad 7 0) (ad 8 0) (ad 9 0) σ.2.2.2.1 f t hn16 hf ht) (cwV 2 hts gX4_waiting_X3_count rfl rfl rfl (by decide +kernel) ⟨Nat.le_of_ble_eq_true rfl, Nat.le_of_ble_eq_true rfl⟩) (qpreV hK hC.wir hC.wir.obj rfl) rfl rfl hl.1 rfl (lv_room (Nat.le_of_ble_eq_true rfl)) dX4_waiting_15 ⟨Nat.zero_le _, Nat.zero_le _⟩) hS (fun q h => h.elim) (fun v15 H locs hp9 hz9 ho9 hS => ?_)
    subst hp9
    have hC := hC.same (fun q => ho9 q (fun h => h))
    refine lv_goto (tgt := 22) hx hb dX4_waiting_18 (by decide) ?_
    exact q_iret hx hb hr hlocks hS (⟨hI.symm, hC⟩) dX4_waiting_22
  · refine Met.ofW (cc := cX4_waiting) (maxL := 3) (ret := (some .int)) (by decide) rfl ?_
    intro p e s m args below meth c s₁ B hml hv
    obtain ⟨rfl, hC, hK⟩ := hv
    have hx := B.exec
    have hb := B.bytes
    have hr := B.returns
    have hts := atoms_spec (ws := wsX4_waiting) B.pre
    have hown : s.vm.findClass RX4 = some m.cls := findClass_of_methodNamed B.named
    have hlocks := B.notSynchronized
    have hS : qS (qA n ad) s.heap s.heap [] := qS.rf
    have hl := lv_entry ([.ref (ad 0 0), .int x, .int y]) (n := 3) (Nat.le_of_ble_eq_true rfl)
    rw [lg_entry_eq]
    generalize (lg_sl ([.ref (ad 0 0), .int x, .int y]) ++ List.replicate (3 - (lg_sl ([.ref (ad 0 0), .int x, .int y])).length) Slot.unset).toArray = ls at hl ⊢
    have hin4 : ∀ w ∈ wsX40, w ∈ wsX4_waiting := by decide +kernel
    have hn1 := hsq.n.1
    have hn16 := hsq.n.2
    have hI : q_waitingI n σ x y = -1 := by rw [q_waitingI, if_neg hnx]
    refine lv_aload_n hx hb dX4_waiting_0 rfl (lv_at hl 0 rfl) ?_
    refine lv_iload_n hx hb dX4_waiting_1 rfl (lv_at hl 1 rfl) ?_
    refine lv_iload_n hx hb dX4_waiting_2 rfl (lv_at hl 2 rfl) ?_
    refine qc_i (va_runV (As := [.int x, .int y]) (rest := []) ⟨hx, hb, hml, hown, hts⟩ (c_X4_isWire l dd ga n k ad σ hsq hL x y) (cwV 2 hts gX4_waiting_X4_isWire rfl rfl rfl (by decide +kernel) ⟨Nat.le_of_ble_eq_true rfl, Nat.le_of_ble_eq_true rfl⟩) (qpreV hK hC hC.self rfl) rfl rfl hl.1 rfl (lv_room (Nat.le_of_ble_eq_true rfl)) dX4_waiting_3 ⟨Nat.zero_le _, Nat.zero_le _⟩) hS (fun q h => h.elim) (fun v3 H locs hp9 hz9 ho9 hS => ?_)
    have ev3 : v3 = _ := hp9
    have hC := hC.same (fun q => ho9 q (fun h => h))
    refine lv_if_eq (tgt := 21) hx hb dX4_waiting_6 (by decide) (fun c_6 => ?_) (fun c_6 => absurd (by rw [ev3, if_neg hnx]) c_6)
    refine lv_iconst (v := (-1)) hx hb dX4_waiting_21 (by decide) ?_
    exact q_iret hx hb hr hlocks hS (⟨hI.symm, hC⟩) dX4_waiting_22
set_option maxHeartbeats 4000000 in
set_option maxRecDepth 100000 in
/-- X4_look -/
theorem c_X4_look (l : Launch) (dd : va_G) (ga : Nat → ClassId) (n k : Nat) (ad : Nat → Nat → Nat) (σ : qSt) (hsq : qSq n k) (hL : qL n ad) (x y : Int32) (u v : Int32) : Met l yX4_look wsX4_look ({ frames := 2, cells := 0, slots := 0, locals := 47 }) (qPc dd ga [.ref (ad 0 0), .int x, .int y, .int u, .int v] (fun H => qC dd ga n k ad σ H)) (qQi (fun z H => z = q_lookI n σ x y u v ∧ qC dd ga n k ad σ H) (qA n ad)) 0 0 (qA n ad) := by
  by_cases hnx : q_node n x = true ∧ q_node n y = true
  · obtain ⟨f, hf, rfl⟩ : ∃ f : Nat, f < n ∧ x = nI f := by
      rcases q_nodeC hsq.n.2 x with h | h
      · exact h.2
      · rw [h] at hnx; exact absurd hnx.1 (by decide)
    obtain ⟨t, ht, rfl⟩ : ∃ t : Nat, t < n ∧ y = nI t := by
      rcases q_nodeC hsq.n.2 y with h | h
      · exact h.2
      · rw [h] at hnx; exact absurd hnx.2 (by decide)
    refine Met.ofW (cc := cX4_look) (maxL := 5) (ret := (some .int)) (by decide) rfl ?_
    intro p e s m args below meth c s₁ B hml hv
    obtain ⟨rfl, hC, hK⟩ := hv
    have hx := B.exec
    have hb := B.bytes
    have hr := B.returns
    have hts := atoms_spec (ws := wsX4_look) B.pre
    have hown : s.vm.findClass RX4 = some m.cls := findClass_of_methodNamed B.named
    have hlocks := B.notSynchronized
    have hS : qS (qA n ad) s.heap s.heap [] := qS.rf
    have hl := lv_entry ([.ref (ad 0 0), .int (nI f), .int (nI t), .int u, .int v]) (n := 5) (Nat.le_of_ble_eq_true rfl)
    rw [lg_entry_eq]
    generalize (lg_sl ([.ref (ad 0 0), .int (nI f), .int (nI t), .int u, .int v]) ++ List.replicate (5 - (lg_sl ([.ref (ad 0 0), .int (nI f), .int (nI t), .int u, .int v])).length) Slot.unset).toArray = ls at hl ⊢
    have hin4 : ∀ w ∈ wsX40, w ∈ wsX4_look := by decide +kernel
    have hn1 := hsq.n.1
    have hn16 := hsq.n.2
    have hI : q_lookI n σ (nI f) (nI t) u v = q_part (σ.2.2.2.1 f t) u v := by rw [q_lookI, if_pos hnx, nI_clamp (by omega), nI_clamp (by omega)]
    refine lv_aload_n hx hb dX4_look_0 rfl (lv_at hl 0 rfl) ?_
    refine lv_iload_n hx hb dX4_look_1 rfl (lv_at hl 1 rfl) ?_
    refine lv_iload_n hx hb dX4_look_2 rfl (lv_at hl 2 rfl) ?_
    refine qc_i (va_runV (As := [.int (nI f), .int (nI t)]) (rest := []) ⟨hx, hb, hml, hown, hts⟩ (c_X4_isWire l dd ga n k ad σ hsq hL (nI f) (nI t)) (cwV 2 hts gX4_look_X4_isWire rfl rfl rfl (by decide +kernel) ⟨Nat.le_of_ble_eq_true rfl, Nat.le_of_ble_eq_true rfl⟩) (qpreV hK hC hC.self rfl) rfl rfl hl.1 rfl (lv_room (Nat.le_of_ble_eq_true rfl)) dX4_look_3 ⟨Nat.zero_le _, Nat.zero_le _⟩) hS (fun q h => h.elim) (fun v3 H locs hp9 hz9 ho9 hS => ?_)
    have ev3 : v3 = _ := hp9
    have hC := hC.same (fun q => ho9 q (fun h => h))
    refine lv_if_eq (tgt := 24) hx hb dX4_look_6 (by decide) (fun c_6 => absurd c_6 (by rw [ev3, if_pos hnx]; decide)) (fun c_6 => ?_)
    refine lv_aload_n hx hb dX4_look_9 rfl (lv_at hl 0 rfl) ?_
    refine qr_get (ci := 4) (C := RX4) (T := TX4) (N := 7) hx hb hts hin4 hown hK hC.self rfl 5 (by decide) (hts (.fieldLink RX4 46 "QuorumLock" "wires" "LQuorumLock$Wires;") (by decide +kernel)) rfl dX4_look_10 ?_
    refine lv_iload_n hx hb dX4_look_13 rfl (lv_at hl 1 rfl) ?_
    refine lv_iload_n hx hb dX4_look_14 rfl (lv_at hl 2 rfl) ?_
    refine lv_iload_n hx hb dX4_look_15 rfl (lv_at hl 3 rfl) ?_
    refine lv_iload hx hb dX4_look_16 (lv_at hl 4 rfl) ?_
    refine qc_i (va_runV (As := [.int (nI f), .int (nI t), .int u, .int v]) (rest := []) ⟨hx, hb, hml, hown, hts⟩ (c_X3_part l dd ga n (ad 5 0) (ad 6 0) (ad 7 0) (ad 8 0) (ad 9 0) σ.2.2.2.1 f t hn16 hf ht u v) (cwV 4 hts gX4_look_X3_part rfl rfl rfl (by decide +kernel) ⟨Nat.le_of_ble_eq_true rfl, Nat.le_of_ble_eq_true rfl⟩) (qpreV hK hC.wir hC.wir.obj rfl) rfl rfl hl.1 rfl (lv_room (Nat.le_of_ble_eq_true rfl)) dX4_look_18 ⟨Nat.zero_le _, Nat.zero_le _⟩) hS (fun q h => h.elim) (fun v18 H locs hp9 hz9 ho9 hS => ?_)
    subst hp9
    have hC := hC.same (fun q => ho9 q (fun h => h))
    refine lv_goto (tgt := 25) hx hb dX4_look_21 (by decide) ?_
    exact q_iret hx hb hr hlocks hS (⟨hI.symm, hC⟩) dX4_look_25
  · refine Met.ofW (cc := cX4_look) (maxL := 5) (ret := (some .int)) (by decide) rfl ?_
    intro p e s m args below meth c s₁ B hml hv
    obtain ⟨rfl, hC, hK⟩ := hv
    have hx := B.exec
    have hb := B.bytes
    have hr := B.returns
    have hts := atoms_spec (ws := wsX4_look) B.pre
    have hown : s.vm.findClass RX4 = some m.cls := findClass_of_methodNamed B.named
    have hlocks := B.notSynchronized
    have hS : qS (qA n ad) s.heap s.heap [] := qS.rf
    have hl := lv_entry ([.ref (ad 0 0), .int x, .int y, .int u, .int v]) (n := 5) (Nat.le_of_ble_eq_true rfl)
    rw [lg_entry_eq]
    generalize (lg_sl ([.ref (ad 0 0), .int x, .int y, .int u, .int v]) ++ List.replicate (5 - (lg_sl ([.ref (ad 0 0), .int x, .int y, .int u, .int v])).length) Slot.unset).toArray = ls at hl ⊢
    have hin4 : ∀ w ∈ wsX40, w ∈ wsX4_look := by decide +kernel
    have hn1 := hsq.n.1
    have hn16 := hsq.n.2
    have hI : q_lookI n σ x y u v = -1 := by rw [q_lookI, if_neg hnx]
    refine lv_aload_n hx hb dX4_look_0 rfl (lv_at hl 0 rfl) ?_
    refine lv_iload_n hx hb dX4_look_1 rfl (lv_at hl 1 rfl) ?_
    refine lv_iload_n hx hb dX4_look_2 rfl (lv_at hl 2 rfl) ?_
    refine qc_i (va_runV (As := [.int x, .int y]) (rest := []) ⟨hx, hb, hml, hown, hts⟩ (c_X4_isWire l dd ga n k ad σ hsq hL x y) (cwV 2 hts gX4_look_X4_isWire rfl rfl rfl (by decide +kernel) ⟨Nat.le_of_ble_eq_true rfl, Nat.le_of_ble_eq_true rfl⟩) (qpreV hK hC hC.self rfl) rfl rfl hl.1 rfl (lv_room (Nat.le_of_ble_eq_true rfl)) dX4_look_3 ⟨Nat.zero_le _, Nat.zero_le _⟩) hS (fun q h => h.elim) (fun v3 H locs hp9 hz9 ho9 hS => ?_)
    have ev3 : v3 = _ := hp9
    have hC := hC.same (fun q => ho9 q (fun h => h))
    refine lv_if_eq (tgt := 24) hx hb dX4_look_6 (by decide) (fun c_6 => ?_) (fun c_6 => absurd (by rw [ev3, if_neg hnx]) c_6)
    refine lv_iconst (v := (-1)) hx hb dX4_look_24 (by decide) ?_
    exact q_iret hx hb hr hlocks hS (⟨hI.symm, hC⟩) dX4_look_25
set_option maxHeartbeats 4000000 in
set_option maxRecDepth 100000 in
/-- X4_deliver -/
theorem c_X4_deliver (l : Launch) (dd : va_G) (ga : Nat → ClassId) (n k : Nat) (ad : Nat → Nat → Nat) (σ : qSt) (hsq : qSq n k) (hL : qL n ad) (x y : Int32) (hcap : qCap n k σ) : Met l yX4_deliver wsX4_deliver ({ frames := 6, cells := 0, slots := 0, locals := 147 }) (qPc dd ga [.ref (ad 0 0), .int x, .int y] (fun H => qC dd ga n k ad σ H)) (qQi (fun v H => v = (q_deliverI n σ x y).1 ∧ qC dd ga n k ad (q_deliverI n σ x y).2 H) (qA n ad)) 0 0 (qA n ad) := by
  by_cases hnx : q_node n x = true ∧ q_node n y = true
  · obtain ⟨f, hf, rfl⟩ : ∃ f : Nat, f < n ∧ x = nI f := by
      rcases q_nodeC hsq.n.2 x with h | h
      · exact h.2
      · rw [h] at hnx; exact absurd hnx.1 (by decide)
    obtain ⟨t, ht, rfl⟩ : ∃ t : Nat, t < n ∧ y = nI t := by
      rcases q_nodeC hsq.n.2 y with h | h
      · exact h.2
      · rw [h] at hnx; exact absurd hnx.2 (by decide)
    refine Met.ofW (cc := cX4_deliver) (maxL := 3) (ret := (some .int)) (by decide) rfl ?_
    intro p e s m args below meth c s₁ B hml hv
    obtain ⟨rfl, hC, hK⟩ := hv
    have hx := B.exec
    have hb := B.bytes
    have hr := B.returns
    have hts := atoms_spec (ws := wsX4_deliver) B.pre
    have hown : s.vm.findClass RX4 = some m.cls := findClass_of_methodNamed B.named
    have hlocks := B.notSynchronized
    have hS : qS (qA n ad) s.heap s.heap [] := qS.rf
    have hl := lv_entry ([.ref (ad 0 0), .int (nI f), .int (nI t)]) (n := 3) (Nat.le_of_ble_eq_true rfl)
    rw [lg_entry_eq]
    generalize (lg_sl ([.ref (ad 0 0), .int (nI f), .int (nI t)]) ++ List.replicate (3 - (lg_sl ([.ref (ad 0 0), .int (nI f), .int (nI t)])).length) Slot.unset).toArray = ls at hl ⊢
    have hin4 : ∀ w ∈ wsX40, w ∈ wsX4_deliver := by decide +kernel
    have hn1 := hsq.n.1
    have hn16 := hsq.n.2
    have hI : q_deliverI n σ (nI f) (nI t) = q_deliver n σ f t := by rw [q_deliverI, if_pos hnx, nI_clamp (by omega), nI_clamp (by omega)]
    refine lv_aload_n hx hb dX4_deliver_0 rfl (lv_at hl 0 rfl) ?_
    refine lv_iload_n hx hb dX4_deliver_1 rfl (lv_at hl 1 rfl) ?_
    refine lv_iload_n hx hb dX4_deliver_2 rfl (lv_at hl 2 rfl) ?_
    refine qc_i (va_runV (As := [.int (nI f), .int (nI t)]) (rest := []) ⟨hx, hb, hml, hown, hts⟩ (c_X4_isWire l dd ga n k ad σ hsq hL (nI f) (nI t)) (cwV 2 hts gX4_deliver_X4_isWire rfl rfl rfl (by decide +kernel) ⟨Nat.le_of_ble_eq_true rfl, Nat.le_of_ble_eq_true rfl⟩) (qpreV hK hC hC.self rfl) rfl rfl hl.1 rfl (lv_room (Nat.le_of_ble_eq_true rfl)) dX4_deliver_3 ⟨Nat.zero_le _, Nat.zero_le _⟩) hS (fun q h => h.elim) (fun v3 H locs hp9 hz9 ho9 hS => ?_)
    have ev3 : v3 = _ := hp9
    have hC := hC.same (fun q => ho9 q (fun h => h))
    refine lv_if_ne (tgt := 11) hx hb dX4_deliver_6 (by decide) (fun c_6 => ?_) (fun c_6 => absurd c_6 (by rw [ev3, if_pos hnx]; decide))
    refine lv_aload_n hx hb dX4_deliver_11 rfl (lv_at hl 0 rfl) ?_
    refine lv_iload_n hx hb dX4_deliver_12 rfl (lv_at hl 1 rfl) ?_
    refine lv_iload_n hx hb dX4_deliver_13 rfl (lv_at hl 2 rfl) ?_
    refine qc_i (va_runV (As := [.int (nI f), .int (nI t)]) (rest := []) ⟨hx, hb, hml, hown, hts⟩ (c_X4_deliverOldest l dd ga n k ad σ hsq hL f t hf ht hcap) (cwV 2 hts gX4_deliver_X4_deliverOldest rfl rfl rfl (by decide +kernel) ⟨Nat.le_of_ble_eq_true rfl, Nat.le_of_ble_eq_true rfl⟩) (qpreV hK hC hC.self rfl) rfl rfl hl.1 rfl (lv_room (Nat.le_of_ble_eq_true rfl)) dX4_deliver_14 ⟨Nat.zero_le _, Nat.zero_le _⟩) hS (fun q h => h) (fun v14 H locs hp9 hz9 ho9 hS => ?_)
    obtain ⟨hv14, hC⟩ := hp9
    exact q_iret hx hb hr hlocks hS (by rw [hI]; exact ⟨hv14, hC⟩) dX4_deliver_17
  · refine Met.ofW (cc := cX4_deliver) (maxL := 3) (ret := (some .int)) (by decide) rfl ?_
    intro p e s m args below meth c s₁ B hml hv
    obtain ⟨rfl, hC, hK⟩ := hv
    have hx := B.exec
    have hb := B.bytes
    have hr := B.returns
    have hts := atoms_spec (ws := wsX4_deliver) B.pre
    have hown : s.vm.findClass RX4 = some m.cls := findClass_of_methodNamed B.named
    have hlocks := B.notSynchronized
    have hS : qS (qA n ad) s.heap s.heap [] := qS.rf
    have hl := lv_entry ([.ref (ad 0 0), .int x, .int y]) (n := 3) (Nat.le_of_ble_eq_true rfl)
    rw [lg_entry_eq]
    generalize (lg_sl ([.ref (ad 0 0), .int x, .int y]) ++ List.replicate (3 - (lg_sl ([.ref (ad 0 0), .int x, .int y])).length) Slot.unset).toArray = ls at hl ⊢
    have hin4 : ∀ w ∈ wsX40, w ∈ wsX4_deliver := by decide +kernel
    have hn1 := hsq.n.1
    have hn16 := hsq.n.2
    have hI : q_deliverI n σ x y = (-1, σ) := by rw [q_deliverI, if_neg hnx]
    refine lv_aload_n hx hb dX4_deliver_0 rfl (lv_at hl 0 rfl) ?_
    refine lv_iload_n hx hb dX4_deliver_1 rfl (lv_at hl 1 rfl) ?_
    refine lv_iload_n hx hb dX4_deliver_2 rfl (lv_at hl 2 rfl) ?_
    refine qc_i (va_runV (As := [.int x, .int y]) (rest := []) ⟨hx, hb, hml, hown, hts⟩ (c_X4_isWire l dd ga n k ad σ hsq hL x y) (cwV 2 hts gX4_deliver_X4_isWire rfl rfl rfl (by decide +kernel) ⟨Nat.le_of_ble_eq_true rfl, Nat.le_of_ble_eq_true rfl⟩) (qpreV hK hC hC.self rfl) rfl rfl hl.1 rfl (lv_room (Nat.le_of_ble_eq_true rfl)) dX4_deliver_3 ⟨Nat.zero_le _, Nat.zero_le _⟩) hS (fun q h => h.elim) (fun v3 H locs hp9 hz9 ho9 hS => ?_)
    have ev3 : v3 = _ := hp9
    have hC := hC.same (fun q => ho9 q (fun h => h))
    refine lv_if_ne (tgt := 11) hx hb dX4_deliver_6 (by decide) (fun c_6 => absurd (by rw [ev3, if_neg hnx]) c_6) (fun c_6 => ?_)
    refine lv_iconst (v := (-1)) hx hb dX4_deliver_9 (by decide) ?_
    exact q_iret hx hb hr hlocks hS (by rw [hI]; exact ⟨rfl, hC⟩) dX4_deliver_10
set_option maxHeartbeats 4000000 in
set_option maxRecDepth 100000 in
/-- X4_settle -/
theorem c_X4_settle (l : Launch) (dd : va_G) (ga : Nat → ClassId) (n k : Nat) (ad : Nat → Nat → Nat) (σ : qSt) (hsq : qSq n k) (hL : qL n ad) (x : Int32) (I : Nat → qSt → Prop) (hI1 : ∀ c τ, I c τ → qCap n k τ) (hI2 : ∀ c τ f t, f < n → t < n → I (c + 1) τ → I c (q_deliver n τ f t).2) (hI0 : I 500 σ) (hI3 : ∀ c d τ, d ≤ c → I c τ → I d τ) : Met l yX4_settle wsX4_settle ({ frames := 6, cells := 0, slots := 0, locals := 147 }) (qPc dd ga [.ref (ad 0 0), .int x] (fun H => qC dd ga n k ad σ H)) (qQi (fun v H => v = (q_settleI n σ x).1 ∧ qC dd ga n k ad (q_settleI n σ x).2 H) (qA n ad)) 0 0 (qA n ad) := by
  refine Met.ofW (cc := cX4_settle) (maxL := 5) (ret := (some .int)) (by decide) rfl ?_
  intro p e s m args below meth c s₁ B hml hv
  obtain ⟨rfl, hC, hK⟩ := hv
  have hx := B.exec
  have hb := B.bytes
  have hr := B.returns
  have hts := atoms_spec (ws := wsX4_settle) B.pre
  have hown : s.vm.findClass RX4 = some m.cls := findClass_of_methodNamed B.named
  have hlocks := B.notSynchronized
  have hS : qS (qA n ad) s.heap s.heap [] := qS.rf
  have hl := lv_entry ([.ref (ad 0 0), .int x]) (n := 5) (Nat.le_of_ble_eq_true rfl)
  rw [lg_entry_eq]
  generalize (lg_sl ([.ref (ad 0 0), .int x]) ++ List.replicate (5 - (lg_sl ([.ref (ad 0 0), .int x])).length) Slot.unset).toArray = ls at hl ⊢
  have hin4 : ∀ w ∈ wsX40, w ∈ wsX4_settle := by decide +kernel
  have hn1 := hsq.n.1
  have hn16 := hsq.n.2
  refine lv_iload_n hx hb dX4_settle_0 rfl (lv_at hl 1 rfl) ?_
  refine lv_iconst (v := 1) hx hb dX4_settle_1 (by decide) ?_
  refine lv_icmp_lt (tgt := 12) hx hb dX4_settle_2 (by decide) (fun c_2 => ?_) (fun c_2 => ?_)
  · have hfin : (-1 : Int32) = (q_settleI n σ x).1 ∧ qC dd ga n k ad (q_settleI n σ x).2 s.heap := by rw [q_settleI, if_pos (Or.inl c_2)]; exact ⟨rfl, hC⟩
    refine lv_iconst (v := (-1)) hx hb dX4_settle_12 (by decide) ?_
    exact q_iret hx hb hr hlocks hS hfin dX4_settle_13
  · refine lv_iload_n hx hb dX4_settle_5 rfl (lv_at hl 1 rfl) ?_
    refine lv_sipush (v := 500) hx hb dX4_settle_6 (by decide) ?_
    refine lv_icmp_le (tgt := 14) hx hb dX4_settle_9 (by decide) (fun c_9 => ?_) (fun c_9 => ?_)
    · have hno : ¬ (x < 1 ∨ 500 < x) := fun h => h.elim c_2 (fun h => absurd c_9 (Int32.not_le.mpr h))
      obtain ⟨j, hj, ej⟩ : ∃ j : Nat, j ≤ 500 ∧ x = nI j := nI_of2 (M := 500) (by decide) (fun h => c_2 (Int32.lt_trans h (by decide))) c_9
      have hsI : q_settleI n σ x = (nI (q_settle n j 0 σ).1, (q_settle n j 0 σ).2) := by rw [q_settleI, if_neg hno, ej, nI_clamp (by omega)]
      subst ej
      have hloop : ∀ (c9 d9 : Nat) (τ : qSt) (ls : Array Slot) (H : Heap) (locs : List Loc), d9 + c9 = j → q_settle n j 0 σ = q_settle n c9 d9 τ → I c9 τ → qC dd ga n k ad τ H → qS (qA n ad) s.heap H locs → lv_has ls 5 [(2, .int (nI d9)), (0, .ref (ad 0 0)), (1, .int (nI j))] → W p l e (headSpec wsX4_settle ({ frames := 6, cells := 0, slots := 0, locals := 147 })).room s m (([.ref (ad 0 0), .int (nI j)] : List Value).toArray) below meth c H locs 0 0 (MQ below (qQi (fun v H => v = (q_settleI n σ (nI j)).1 ∧ qC dd ga n k ad (q_settleI n σ (nI j)).2 H) (qA n ad)) (([.ref (ad 0 0), .int (nI j)] : List Value).toArray) s 0 0 (qA n ad)) (F0 m 16 ls []) := by
        intro c9
        induction c9 with
        | zero =>
          intro d9 τ ls H locs hc he hI hC hS hl
          refine lv_iload_n hx hb dX4_settle_16 rfl (lv_at hl 0 rfl) ?_
          refine lv_iload_n hx hb dX4_settle_17 rfl (lv_at hl 2 rfl) ?_
          refine lv_icmp_ge (tgt := 61) hx hb dX4_settle_18 (by decide) (fun c_18 => ?_) (fun c_18 => absurd (nI_le (show j ≤ d9 by omega) (by omega)) c_18)
          refine lv_iload_n hx hb dX4_settle_61 rfl (lv_at hl 2 rfl) ?_
          exact q_iret hx hb hr hlocks hS (by rw [hsI, he]; exact ⟨by rw [show j = d9 by omega]; rfl, hC⟩) dX4_settle_62
        | succ c9 ih =>
          intro d9 τ ls H locs hc he hI hC hS hl
          have hff := q_lf_from (n := n) (σ := τ) n 0
          have hcp := hI1 _ _ hI
          rcases hfr : q_from n τ n 0 with _ | ⟨f9, t9⟩
          · refine lv_iload_n hx hb dX4_settle_16 rfl (lv_at hl 0 rfl) ?_
            refine lv_iload_n hx hb dX4_settle_17 rfl (lv_at hl 2 rfl) ?_
            refine lv_icmp_ge (tgt := 61) hx hb dX4_settle_18 (by decide) (fun c_18 => absurd c_18 (nI_ge (by omega) (by omega))) (fun c_18 => ?_)
            refine lv_aload_n hx hb dX4_settle_21 rfl (lv_at hl 1 rfl) ?_
            refine qr_get (ci := 4) (C := RX4) (T := TX4) (N := 7) hx hb hts hin4 hown hK hC.self rfl 5 (by decide) (hts (.fieldLink RX4 46 "QuorumLock" "wires" "LQuorumLock$Wires;") (by decide +kernel)) rfl dX4_settle_22 ?_
            refine qc_i (va_runV (As := []) (rest := []) ⟨hx, hb, hml, hown, hts⟩ (c_X3_leastFrom l dd ga n (ad 5 0) (ad 6 0) (ad 7 0) (ad 8 0) (ad 9 0) τ.2.2.2.1 hn16) (cwV 0 hts gX4_settle_X3_leastFrom rfl rfl rfl (by decide +kernel) ⟨Nat.le_of_ble_eq_true rfl, Nat.le_of_ble_eq_true rfl⟩) (qpreV hK hC.wir hC.wir.obj rfl) rfl rfl hl.1 rfl (lv_room (Nat.le_of_ble_eq_true rfl)) dX4_settle_25 ⟨Nat.zero_le _, Nat.zero_le _⟩) hS (fun q h => h.elim) (fun v25 H locs hp9 hz9 ho9 hS => ?_)
            rw [hff.1 hfr] at hp9
            subst hp9
            have hC := hC.same (fun q => ho9 q (fun h => h))
            refine lv_istore_n (lv' := [(3, .int (-1)), (2, .int (nI d9)), (0, .ref (ad 0 0)), (1, .int (nI j))]) hx hb dX4_settle_28 rfl hl (by decide) rfl (fun ls hl => ?_)
            refine lv_aload_n hx hb dX4_settle_29 rfl (lv_at hl 2 rfl) ?_
            refine qr_get (ci := 4) (C := RX4) (T := TX4) (N := 7) hx hb hts hin4 hown hK hC.self rfl 5 (by decide) (hts (.fieldLink RX4 46 "QuorumLock" "wires" "LQuorumLock$Wires;") (by decide +kernel)) rfl dX4_settle_30 ?_
            refine lv_iload_n hx hb dX4_settle_33 rfl (lv_at hl 0 rfl) ?_
            refine qc_i (va_runV (As := [.int (-1)]) (rest := []) ⟨hx, hb, hml, hown, hts⟩ (c_X3_leastTon l dd ga n (ad 5 0) (ad 6 0) (ad 7 0) (ad 8 0) (ad 9 0) τ.2.2.2.1 hn16) (cwV 1 hts gX4_settle_X3_leastTo rfl rfl rfl (by decide +kernel) ⟨Nat.le_of_ble_eq_true rfl, Nat.le_of_ble_eq_true rfl⟩) (qpreV hK hC.wir hC.wir.obj rfl) rfl rfl hl.1 rfl (lv_room (Nat.le_of_ble_eq_true rfl)) dX4_settle_34 ⟨Nat.zero_le _, Nat.zero_le _⟩) hS (fun q h => h.elim) (fun v34 H locs hp9 hz9 ho9 hS => ?_)
            subst hp9
            have hC := hC.same (fun q => ho9 q (fun h => h))
            refine lv_istore (lv' := [(4, .int (-1)), (3, .int (-1)), (2, .int (nI d9)), (0, .ref (ad 0 0)), (1, .int (nI j))]) hx hb dX4_settle_37 hl (by decide) rfl (fun ls hl => ?_)
            refine lv_iload hx hb dX4_settle_39 (lv_at hl 0 rfl) ?_
            refine lv_iconst (v := (-1)) hx hb dX4_settle_41 (by decide) ?_
            refine lv_icmp_ne (tgt := 47) hx hb dX4_settle_42 (by decide) (fun c_42 => absurd rfl c_42) (fun c_42 => ?_)
            refine lv_iload_n hx hb dX4_settle_45 rfl (lv_at hl 2 rfl) ?_
            exact q_iret hx hb hr hlocks hS (by rw [hsI, he, q_settle, hfr]; exact ⟨rfl, hC⟩) dX4_settle_46
          · have hb9 := hff.2 f9 t9 hfr
            have hf9 : f9 < n := by omega
            have ht9 : t9 < n := hb9.2.2.2.1
            refine lv_iload_n hx hb dX4_settle_16 rfl (lv_at hl 0 rfl) ?_
            refine lv_iload_n hx hb dX4_settle_17 rfl (lv_at hl 2 rfl) ?_
            refine lv_icmp_ge (tgt := 61) hx hb dX4_settle_18 (by decide) (fun c_18 => absurd c_18 (nI_ge (by omega) (by omega))) (fun c_18 => ?_)
            refine lv_aload_n hx hb dX4_settle_21 rfl (lv_at hl 1 rfl) ?_
            refine qr_get (ci := 4) (C := RX4) (T := TX4) (N := 7) hx hb hts hin4 hown hK hC.self rfl 5 (by decide) (hts (.fieldLink RX4 46 "QuorumLock" "wires" "LQuorumLock$Wires;") (by decide +kernel)) rfl dX4_settle_22 ?_
            refine qc_i (va_runV (As := []) (rest := []) ⟨hx, hb, hml, hown, hts⟩ (c_X3_leastFrom l dd ga n (ad 5 0) (ad 6 0) (ad 7 0) (ad 8 0) (ad 9 0) τ.2.2.2.1 hn16) (cwV 0 hts gX4_settle_X3_leastFrom rfl rfl rfl (by decide +kernel) ⟨Nat.le_of_ble_eq_true rfl, Nat.le_of_ble_eq_true rfl⟩) (qpreV hK hC.wir hC.wir.obj rfl) rfl rfl hl.1 rfl (lv_room (Nat.le_of_ble_eq_true rfl)) dX4_settle_25 ⟨Nat.zero_le _, Nat.zero_le _⟩) hS (fun q h => h.elim) (fun v25 H locs hp9 hz9 ho9 hS => ?_)
            rw [hb9.1] at hp9
            subst hp9
            have hC := hC.same (fun q => ho9 q (fun h => h))
            refine lv_istore_n (lv' := [(3, .int (nI f9)), (2, .int (nI d9)), (0, .ref (ad 0 0)), (1, .int (nI j))]) hx hb dX4_settle_28 rfl hl (by decide) rfl (fun ls hl => ?_)
            refine lv_aload_n hx hb dX4_settle_29 rfl (lv_at hl 2 rfl) ?_
            refine qr_get (ci := 4) (C := RX4) (T := TX4) (N := 7) hx hb hts hin4 hown hK hC.self rfl 5 (by decide) (hts (.fieldLink RX4 46 "QuorumLock" "wires" "LQuorumLock$Wires;") (by decide +kernel)) rfl dX4_settle_30 ?_
            refine lv_iload_n hx hb dX4_settle_33 rfl (lv_at hl 0 rfl) ?_
            refine qc_i (va_runV (As := [.int (nI f9)]) (rest := []) ⟨hx, hb, hml, hown, hts⟩ (c_X3_leastTo l dd ga n (ad 5 0) (ad 6 0) (ad 7 0) (ad 8 0) (ad 9 0) τ.2.2.2.1 hn16 f9 hf9) (cwV 1 hts gX4_settle_X3_leastTo rfl rfl rfl (by decide +kernel) ⟨Nat.le_of_ble_eq_true rfl, Nat.le_of_ble_eq_true rfl⟩) (qpreV hK hC.wir hC.wir.obj rfl) rfl rfl hl.1 rfl (lv_room (Nat.le_of_ble_eq_true rfl)) dX4_settle_34 ⟨Nat.zero_le _, Nat.zero_le _⟩) hS (fun q h => h.elim) (fun v34 H locs hp9 hz9 ho9 hS => ?_)
            rw [hb9.2.1] at hp9
            subst hp9
            have hC := hC.same (fun q => ho9 q (fun h => h))
            refine lv_istore (lv' := [(4, .int (nI t9)), (3, .int (nI f9)), (2, .int (nI d9)), (0, .ref (ad 0 0)), (1, .int (nI j))]) hx hb dX4_settle_37 hl (by decide) rfl (fun ls hl => ?_)
            refine lv_iload hx hb dX4_settle_39 (lv_at hl 0 rfl) ?_
            refine lv_iconst (v := (-1)) hx hb dX4_settle_41 (by decide) ?_
            refine lv_icmp_ne (tgt := 47) hx hb dX4_settle_42 (by decide) (fun c_42 => ?_) (fun c_42 => absurd c_42 (q_nI_m1 (by omega)))
            refine lv_aload_n hx hb dX4_settle_47 rfl (lv_at hl 3 rfl) ?_
            refine lv_iload_n hx hb dX4_settle_48 rfl (lv_at hl 1 rfl) ?_
            refine lv_iload hx hb dX4_settle_49 (lv_at hl 0 rfl) ?_
            refine qc_i (va_runV (As := [.int (nI f9), .int (nI t9)]) (rest := []) ⟨hx, hb, hml, hown, hts⟩ (c_X4_deliverOldest l dd ga n k ad τ hsq hL f9 t9 hf9 ht9 hcp) (cwV 2 hts gX4_settle_X4_deliverOldest rfl rfl rfl (by decide +kernel) ⟨Nat.le_of_ble_eq_true rfl, Nat.le_of_ble_eq_true rfl⟩) (qpreV hK hC hC.self rfl) rfl rfl hl.1 rfl (lv_room (Nat.le_of_ble_eq_true rfl)) dX4_settle_51 ⟨Nat.zero_le _, Nat.zero_le _⟩) hS (fun q h => h) (fun v51 H locs hp9 hz9 ho9 hS => ?_)
            have hC := hp9.2
            refine lv_pop hx hb dX4_settle_54 rfl ?_
            refine lv_iinc (v := nI (d9 + 1)) (lv' := [(2, .int (nI (d9 + 1))), (4, .int (nI t9)), (3, .int (nI f9)), (0, .ref (ad 0 0)), (1, .int (nI j))]) hx hb dX4_settle_55 hl (k := 2) rfl (nI_1 _) (by decide) rfl (fun ls hl => ?_)
            refine lv_goto (tgt := 16) hx hb dX4_settle_58 (by decide) ?_
            exact ih (d9 + 1) _ ls _ _ (by omega) (by rw [he, q_settle, hfr]) (hI2 _ _ _ _ hf9 ht9 hI) hC hS (lv_sub hl [0, 3, 4] rfl)
      refine lv_iconst (v := nI 0) hx hb dX4_settle_14 (by decide) ?_
      refine lv_istore_n (lv' := [(2, .int (nI 0)), (0, .ref (ad 0 0)), (1, .int (nI j))]) hx hb dX4_settle_15 rfl hl (by decide) rfl (fun ls hl => ?_)
      exact hloop j 0 σ ls _ _ (by omega) rfl (hI3 _ _ _ hj hI0) hC hS hl
    · have hfin : (-1 : Int32) = (q_settleI n σ x).1 ∧ qC dd ga n k ad (q_settleI n σ x).2 s.heap := by rw [q_settleI, if_pos (Or.inr (Int32.not_le.mp c_9))]; exact ⟨rfl, hC⟩
      refine lv_iconst (v := (-1)) hx hb dX4_settle_12 (by decide) ?_
      exact q_iret hx hb hr hlocks hS hfin dX4_settle_13
