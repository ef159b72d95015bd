theorem q_arr {cA : ClassId} {n : Nat} {f g : Nat → Int32} (h : ∀ j, j < n → f j = g j) : vp_cell cA (n, .inl f) = vp_cell cA (n, .inl g) := by
  rw [vp_cell_i, vp_cell_i]
  unfold arrV
  congr 1
  congr 1
  funext j
  show Value.int (f j.val) = Value.int (g j.val)
  rw [h j.val j.isLt]
theorem q_ati {dd : va_G} {cA : ClassId} {a n : Nat} {f g : Nat → Int32} {H : Heap} (h : ∀ j, j < n → f j = g j) (ha : va_at dd vwCl (a, .inl (cA, n, .inl f)) H) : va_at dd vwCl (a, .inl (cA, n, .inl g)) H := by
  have ha : H[a]? = some (vp_cell cA (n, .inl f)) := ha
  rw [q_arr h] at ha
  exact ha
theorem q_sum_congr {w w' : Nat → Nat → List qM} {f : Nat} : ∀ {m : Nat}, (∀ t, t < m → w' f t = w f t) → q_sum w' f m = q_sum w f m
  | 0, _ => rfl
  | m + 1, h => by
    unfold q_sum
    rw [q_sum_congr (m := m) (fun t ht => h t (by omega)), h m (by omega)]
section QC2
variable {dd : va_G} {ga : Nat → ClassId} {n k : Nat} {ad : Nat → Nat → Nat} {σ σ' : qSt} {H H1 : Heap}
theorem qC.congr (h : qC dd ga n k ad σ H) (e1 : ∀ f i, f ≤ 6 → i < n → σ'.1 f i = σ.1 f i) (e2 : ∀ i, i < n → σ'.2.1 i = σ.2.1 i) (e3 : ∀ i, i < n → σ'.2.2.1 i = σ.2.2.1 i) (e4 : ∀ f t, f < n → t < n → σ'.2.2.2.1 f t = σ.2.2.2.1 f t) (e5 : σ'.2.2.2.2 = σ.2.2.2.2) : qC dd ga n k ad σ' H := by
  refine ⟨by rw [e5]; exact h.self, h.quo, q_ati (fun j hj => (e1 0 j (by omega) hj).symm) h.clk, h.arA, h.arV, ?_, fun i hi => ?_, fun i hi => ?_, fun i hi => ?_⟩
  · obtain ⟨P, O, Y, F, a, b, c, d, e, f, g⟩ := h.wir
    refine ⟨P, O, Y, F, a, b, c, d, e, fun f9 t9 hf ht => ?_, fun f9 hf => ?_⟩
    · rw [e4 f9 t9 hf ht]; exact f f9 t9 hf ht
    · rw [q_sum_congr (fun t ht => e4 f9 t hf ht)]; exact g f9 hf
  · rw [e1 1 i (by omega) hi, e1 2 i (by omega) hi, e1 3 i (by omega) hi, e1 4 i (by omega) hi, e1 5 i (by omega) hi]; exact h.ask i hi
  · rw [e1 6 i (by omega) hi, e2 i hi]; exact h.vot i hi
  · rw [e3 i hi]; exact h.row i hi
theorem qC.putVR (hL : qL n ad) (h : qC dd ga n k ad σ H) {i : Nat} (hi : i < n) (hO : ∀ q : Nat, ¬ (q = ad 11 i ∨ q = ad 12 i) → H1[q]? = H[q]?) (hn : qVot dd (ad 11 i) (ad 12 i) (σ'.2.1 i) (σ'.1 6 i) H1) (hn2 : qRow dd ga (2 * k - 1) (ad 12 i) (ad 13 i) (ad 14 i) (σ'.2.2.1 i) H1)
    (e1 : ∀ f j : Nat, ¬ (f = 6 ∧ j = i) → σ'.1 f j = σ.1 f j) (e2 : ∀ j : Nat, j ≠ i → σ'.2.1 j = σ.2.1 j) (e3 : ∀ j : Nat, j ≠ i → σ'.2.2.1 j = σ.2.2.1 j) (e4 : σ'.2.2.2 = σ.2.2.2) : qC dd ga n k ad σ' H1 := by
  have hx : ∀ a b : Nat, qd n a b → ¬ ((a = 11 ∨ a = 12) ∧ b = i) → H1[ad a b]? = H[ad a b]? := fun a b h1 h2 => hO _ (fun h3 => by
    rcases h3 with h3 | h3
    · have := hL _ _ _ _ h1 (qd.i (by decide) (by decide) hi) h3; omega
    · have := hL _ _ _ _ h1 (qd.i (by decide) (by decide) hi) h3; omega)
  have hz : ∀ a : Nat, a < 10 → H1[ad a 0]? = H[ad a 0]? := fun a ha => hx a 0 (qd.z ha) (by omega)
  refine ⟨?_, qa_kept h.quo (hz 1 (by decide)), ?_, qa_kept h.arA (hz 3 (by decide)), qa_kept h.arV (hz 4 (by decide)), ?_, fun j hjn => ?_, fun j hjn => ?_, fun j hjn => ?_⟩
  · rw [e4]; exact qa_kept h.self (hz 0 (by decide))
  · rw [show σ'.1 0 = σ.1 0 from funext fun j => e1 0 j (by omega)]; exact qa_kept h.clk (hz 2 (by decide))
  · rw [e4]; exact h.wir.kept (hz 5 (by decide)) (hz 6 (by decide)) (hz 7 (by decide)) (hz 8 (by decide)) (hz 9 (by decide))
  · rw [e1 1 j (by omega), e1 2 j (by omega), e1 3 j (by omega), e1 4 j (by omega), e1 5 j (by omega)]
    exact qa_kept (h.ask j hjn) (hx 10 j (qd.i (by decide) (by decide) hjn) (by omega))
  · by_cases hji : j = i
    · subst hji; exact hn
    · rw [e1 6 j (by omega), e2 j hji]; exact qa_kept (h.vot j hjn) (hx 11 j (qd.i (by decide) (by decide) hjn) (by omega))
  · by_cases hji : j = i
    · subst hji; exact hn2
    · rw [e3 j hji]; exact (h.row j hjn).kept (hx 12 j (qd.i (by decide) (by decide) hjn) (by omega)) (hx 13 j (qd.i (by decide) (by decide) hjn) (by omega)) (hx 14 j (qd.i (by decide) (by decide) hjn) (by omega))
end QC2
/-- nodes below i are as new -/
def q_ini (σ : qSt) (i : Nat) : qSt := (fun f j => if j < i then 0 else σ.1 f j, fun j => if j < i then none else σ.2.1 j, fun j => if j < i then [] else σ.2.2.1 j, σ.2.2.2.1, σ.2.2.2.2)
set_option maxHeartbeats 4000000 in
set_option maxRecDepth 100000 in
/-- X4_init_ -/
theorem c_X4_init_ (l : Launch) (dd : va_G) (ga : Nat → ClassId) (n k : Nat) (ad : Nat → Nat → Nat) (σ : qSt) (hsq : qSq n k) (hL : qL n ad) : Met l yX4_init_ wsX4_init_ ({ frames := 2, cells := 0, slots := 0, locals := 40 }) (qPc dd ga [.ref (ad 0 0)] (fun H => qC dd ga n k ad σ H)) (qQv (fun H => qC dd ga n k ad q_init H) (qA n ad)) 0 0 (qA n ad) := by
  refine Met.ofW (cc := cX4_init_) (maxL := 2) (ret := none) (by decide) rfl ?_
  intro p e s m args below meth c s₁ B hml hv
  obtain ⟨rfl, hC, hK⟩ := hv
  have hx := B.exec
  have hb := B.bytes
  have hr := B.returns
  have hts := atoms_spec (ws := wsX4_init_) B.pre
  have hown : s.vm.findClass RX4 = some m.cls := findClass_of_methodNamed B.named
  have hlocks := B.notSynchronized
  have hS : qS (qA n ad) s.heap s.heap [] := qS.rf
  have hl := lv_entry ([.ref (ad 0 0)]) (n := 2) (Nat.le_of_ble_eq_true rfl)
  rw [lg_entry_eq]
  generalize (lg_sl ([.ref (ad 0 0)]) ++ List.replicate (2 - (lg_sl ([.ref (ad 0 0)])).length) Slot.unset).toArray = ls at hl ⊢
  have hin4 : ∀ w ∈ wsX40, w ∈ wsX4_init_ := by decide +kernel
  have hn1 := hsq.n.1
  have hn16 := hsq.n.2
  have hloop : ∀ (c9 i9 : Nat) (ls : Array Slot) (H : Heap) (locs : List Loc), i9 + c9 = n → qC dd ga n k ad (q_ini σ i9) H → qS (qA n ad) s.heap H locs → lv_has ls 2 [(1, .int (nI i9)), (0, .ref (ad 0 0))] → W p l e (headSpec wsX4_init_ ({ frames := 2, cells := 0, slots := 0, locals := 40 })).room s m (([.ref (ad 0 0)] : List Value).toArray) below meth c H locs 0 0 (MQ below (qQv (fun H => qC dd ga n k ad q_init H) (qA n ad)) (([.ref (ad 0 0)] : List Value).toArray) s 0 0 (qA n ad)) (F0 m 2 ls []) := by
    intro c9
    induction c9 with
    | zero =>
      intro i9 ls H locs hc hC hS hl
      refine lv_iload_n hx hb dX4_init__2 rfl (lv_at hl 0 rfl) ?_
      refine lv_aload_n hx hb dX4_init__3 rfl (lv_at hl 1 rfl) ?_
      refine qr_get (ci := 4) (C := RX4) (T := TX4) (N := 7) hx hb hts hin4 hown hK hC.self rfl 0 (by decide) (hts (.fieldLink RX4 18 "QuorumLock" "nodes" "I") (by decide +kernel)) rfl dX4_init__4 ?_
      refine lv_icmp_ge (tgt := 41) hx hb dX4_init__7 (by decide) (fun c_7 => ?_) (fun c_7 => absurd (nI_le (show n ≤ i9 by omega) (by omega)) c_7)
      refine lv_aload_n hx hb dX4_init__41 rfl (lv_at hl 1 rfl) ?_
      refine qr_get (ci := 4) (C := RX4) (T := TX4) (N := 7) hx hb hts hin4 hown hK hC.self rfl 5 (by decide) (hts (.fieldLink RX4 46 "QuorumLock" "wires" "LQuorumLock$Wires;") (by decide +kernel)) rfl dX4_init__42 ?_
      refine qc_v (va_runV (As := []) (rest := []) ⟨hx, hb, hml, hown, hts⟩ (c_X3_emptyAll l dd ga n (ad 5 0) (ad 6 0) (ad 7 0) (ad 8 0) (ad 9 0) (hL.ne (qd.z (by decide)) (qd.z (by decide)) (by decide)) (hL.ne (qd.z (by decide)) (qd.z (by decide)) (by decide)) (hL.ne (qd.z (by decide)) (qd.z (by decide)) (by decide)) (hL.ne (qd.z (by decide)) (qd.z (by decide)) (by decide)) (hL.ne (qd.z (by decide)) (qd.z (by decide)) (by decide)) (hL.ne (qd.z (by decide)) (qd.z (by decide)) (by decide)) (hL.ne (qd.z (by decide)) (qd.z (by decide)) (by decide)) (hL.ne (qd.z (by decide)) (qd.z (by decide)) (by decide)) (hL.ne (qd.z (by decide)) (qd.z (by decide)) (by decide)) (hL.ne (qd.z (by decide)) (qd.z (by decide)) (by decide)) hn16) (cwV 0 hts gX4_init__X3_emptyAll rfl rfl rfl (by decide +kernel) ⟨Nat.le_of_ble_eq_true rfl, Nat.le_of_ble_eq_true rfl⟩) (qpreV hK (by obtain ⟨P, O, Y, F, a, b, c, d, e, -⟩ := hC.wir; exact ⟨P, O, Y, F, a, b, c, d, e⟩) hC.wir.obj rfl) rfl rfl hl.1 rfl (lv_room (Nat.le_of_ble_eq_true rfl)) dX4_init__45 ⟨Nat.zero_le _, Nat.zero_le _⟩) hS (fun q h => qA.wir h) (fun H locs hp9 hz9 ho9 hS => ?_)
      have hC := hC.putWir (σ' := ((q_ini σ i9).1, (q_ini σ i9).2.1, (q_ini σ i9).2.2.1, (fun _ _ => []), (q_ini σ i9).2.2.2.2)) hL ho9 hp9 rfl rfl rfl rfl
      refine lv_aload_n hx hb dX4_init__48 rfl (lv_at hl 1 rfl) ?_
      refine lv_iconst (v := 0) hx hb dX4_init__49 (by decide) ?_
      refine qr_put (ci := 4) (C := RX4) (T := TX4) (N := 7) hx hb hts hin4 tyX4 tyX4_ok nmX4 hown hK hC.self hS (⟨0, 0, qd.z (by decide), rfl⟩) rfl 6 (by decide) (hts (.fieldLink RX4 67 "QuorumLock" "entries" "I") (by decide +kernel)) rfl rfl rfl (Nat.le_of_ble_eq_true rfl) dX4_init__50 (fun H locs hz9 ho9 hat9 hS => ?_)
      have hC := hC.putEn hL ho9 hat9
      exact q_vret hx hb hr hlocks hS (hC.congr (fun f i _ hi => (if_pos (show i < i9 by omega)).symm) (fun i hi => (if_pos (show i < i9 by omega)).symm) (fun i hi => (if_pos (show i < i9 by omega)).symm) (fun f t hf ht => rfl) rfl) dX4_init__53
    | succ c9 ih =>
      intro i9 ls H locs hc hC hS hl
      have hi9 : i9 < n := by omega
      refine lv_iload_n hx hb dX4_init__2 rfl (lv_at hl 0 rfl) ?_
      refine lv_aload_n hx hb dX4_init__3 rfl (lv_at hl 1 rfl) ?_
      refine qr_get (ci := 4) (C := RX4) (T := TX4) (N := 7) hx hb hts hin4 hown hK hC.self rfl 0 (by decide) (hts (.fieldLink RX4 18 "QuorumLock" "nodes" "I") (by decide +kernel)) rfl dX4_init__4 ?_
      refine lv_icmp_ge (tgt := 41) hx hb dX4_init__7 (by decide) (fun c_7 => absurd c_7 (nI_ge (by omega) (by omega))) (fun c_7 => ?_)
      refine lv_aload_n hx hb dX4_init__10 rfl (lv_at hl 1 rfl) ?_
      refine qr_get (ci := 4) (C := RX4) (T := TX4) (N := 7) hx hb hts hin4 hown hK hC.self rfl 2 (by decide) (hts (.fieldLink RX4 26 "QuorumLock" "clocks" "[I") (by decide +kernel)) rfl dX4_init__11 ?_
      refine lv_iload_n hx hb dX4_init__14 rfl (lv_at hl 0 rfl) ?_
      refine lv_iconst (v := 0) hx hb dX4_init__15 (by decide) ?_
      refine qr_iast hx hb hK hC.clk hS (⟨2, 0, qd.z (by decide), rfl⟩) i9 (by omega) (by omega) rfl dX4_init__16 (fun H locs hz9 ho9 hat9 hS => ?_)
      have hC := hC.putClk (σ' := s_tb (q_ini σ i9) 0 i9 0) hL ho9 (by have h9 : ((s_tb (q_ini σ i9) 0 i9 0).1 0) = upd ((q_ini σ i9).1 0) i9 0 := (by funext j; by_cases h : j = i9 <;> simp [s_tb, q2, upd, h]); rw [h9]; exact hat9) (fun f j h => q2_n (by omega)) rfl
      refine lv_aload_n hx hb dX4_init__17 rfl (lv_at hl 1 rfl) ?_
      refine qr_get (ci := 4) (C := RX4) (T := TX4) (N := 7) hx hb hts hin4 hown hK hC.self rfl 3 (by decide) (hts (.fieldLink RX4 31 "QuorumLock" "askers" "[LQuorumLock$Asker;") (by decide +kernel)) rfl dX4_init__18 ?_
      refine lv_iload_n hx hb dX4_init__21 rfl (lv_at hl 0 rfl) ?_
      refine qr_aald (v := ad 10 i9) hx hb hK 2 hC.arA rfl i9 (by omega) (by omega) rfl rfl dX4_init__22 ?_
      refine qc_v (va_runV (As := []) (rest := []) ⟨hx, hb, hml, hown, hts⟩ (c_X0_becomeIdle l dd ga (ad 10 i9) ((s_tb (q_ini σ i9) 0 i9 0).1 1 i9) ((s_tb (q_ini σ i9) 0 i9 0).1 2 i9) ((s_tb (q_ini σ i9) 0 i9 0).1 3 i9) ((s_tb (q_ini σ i9) 0 i9 0).1 4 i9) ((s_tb (q_ini σ i9) 0 i9 0).1 5 i9)) (cwV 0 hts gX4_init__X0_becomeIdle rfl rfl rfl (by decide +kernel) ⟨Nat.le_of_ble_eq_true rfl, Nat.le_of_ble_eq_true rfl⟩) (qpreV hK (hC.ask i9 hi9) (hC.ask i9 hi9) rfl) rfl rfl hl.1 rfl (lv_room (Nat.le_of_ble_eq_true rfl)) dX4_init__23 ⟨Nat.zero_le _, Nat.zero_le _⟩) hS (fun q h => qA.at (by decide) (by decide) hi9 h) (fun H locs hp9 hz9 ho9 hS => ?_)
      have hC := hC.putAsk (σ' := q_empty (s_tb (s_tb (s_tb (q_ini σ i9) 0 i9 0) 1 i9 0) 2 i9 0) i9) hL hi9 ho9 (by simpa [q_empty, s_tb, q2] using hp9) (fun f j h => by simp only [q_empty, s_tb, q2]; repeat rw [if_neg (by omega)]) rfl
      refine lv_aload_n hx hb dX4_init__26 rfl (lv_at hl 1 rfl) ?_
      refine qr_get (ci := 4) (C := RX4) (T := TX4) (N := 7) hx hb hts hin4 hown hK hC.self rfl 4 (by decide) (hts (.fieldLink RX4 37 "QuorumLock" "voters" "[LQuorumLock$Voter;") (by decide +kernel)) rfl dX4_init__27 ?_
      refine lv_iload_n hx hb dX4_init__30 rfl (lv_at hl 0 rfl) ?_
      refine qr_aald (v := ad 11 i9) hx hb hK 3 hC.arV rfl i9 (by omega) (by omega) rfl rfl dX4_init__31 ?_
      refine qc_v (va_runV (As := []) (rest := []) ⟨hx, hb, hml, hown, hts⟩ (c_X2_forgetAll l dd ga (2 * k - 1) (ad 11 i9) (ad 12 i9) (ad 13 i9) (ad 14 i9) (q_on ((q_empty (s_tb (s_tb (s_tb (q_ini σ i9) 0 i9 0) 1 i9 0) 2 i9 0) i9).2.1 i9)) (q_ot ((q_empty (s_tb (s_tb (s_tb (q_ini σ i9) 0 i9 0) 1 i9 0) 2 i9 0) i9).2.1 i9)) ((q_empty (s_tb (s_tb (s_tb (q_ini σ i9) 0 i9 0) 1 i9 0) 2 i9 0) i9).1 6 i9) ((q_empty (s_tb (s_tb (s_tb (q_ini σ i9) 0 i9 0) 1 i9 0) 2 i9 0) i9).2.2.1 i9) (hL.ne (qd.i (by decide) (by decide) hi9) (qd.i (by decide) (by decide) hi9) (by omega)) (hL.ne (qd.i (by decide) (by decide) hi9) (qd.i (by decide) (by decide) hi9) (by omega)) (hL.ne (qd.i (by decide) (by decide) hi9) (qd.i (by decide) (by decide) hi9) (by omega)) (hL.ne (qd.i (by decide) (by decide) hi9) (qd.i (by decide) (by decide) hi9) (by omega)) (hL.ne (qd.i (by decide) (by decide) hi9) (qd.i (by decide) (by decide) hi9) (by omega))) (cwV 0 hts gX4_init__X2_forgetAll rfl rfl rfl (by decide +kernel) ⟨Nat.le_of_ble_eq_true rfl, Nat.le_of_ble_eq_true rfl⟩) (qpreV hK (⟨hC.vot i9 hi9, hC.row i9 hi9⟩) (hC.vot i9 hi9) rfl) rfl rfl hl.1 rfl (lv_room (Nat.le_of_ble_eq_true rfl)) dX4_init__32 ⟨Nat.zero_le _, Nat.zero_le _⟩) hS (fun q h => h.elim (fun h => qA.at (by decide) (by decide) hi9 h) (fun h => qA.at (by decide) (by decide) hi9 h)) (fun H locs hp9 hz9 ho9 hS => ?_)
      have hC := hC.putVR (σ' := s_rw (s_tb (s_ln (q_empty (s_tb (s_tb (s_tb (q_ini σ i9) 0 i9 0) 1 i9 0) 2 i9 0) i9) i9 none) 6 i9 0) i9 []) hL hi9 ho9 (by simpa [qVot, s_tb, s_ln, s_rw, q2, va_up, q_on, q_ot] using hp9.1) (by simpa [s_tb, s_ln, s_rw, q2, va_up] using hp9.2) (fun f j h => q2_n h) (fun j h => va_up_ne _ _ h) (fun j h => va_up_ne _ _ h) rfl
      refine lv_iinc (v := nI (i9 + 1)) (lv' := [(1, .int (nI (i9 + 1))), (0, .ref (ad 0 0))]) hx hb dX4_init__35 hl (k := 0) rfl (nI_1 _) (by decide) rfl (fun ls hl => ?_)
      refine lv_goto (tgt := 2) hx hb dX4_init__38 (by decide) ?_
      refine ih (i9 + 1) ls _ _ (by omega) (hC.congr (fun f i hf6 hi => ?_) (fun i hi => ?_) (fun i hi => ?_) (fun f t hf ht => rfl) rfl) hS (lv_sub hl [0, 1] rfl)
      · show (if i < i9 + 1 then 0 else σ.1 f i) = _
        simp only [q_empty, s_tb, s_ln, s_rw, q2, q_ini]
        by_cases h1 : i < i9
        · rw [if_pos (show i < i9 + 1 by omega)]
          repeat rw [if_neg (show ¬ (_ ∧ i = i9) by omega)]
          rw [if_pos h1]
        · by_cases h2 : i = i9
          · subst h2
            rw [if_pos (show i < i + 1 by omega)]
            rcases (show f = 0 ∨ f = 1 ∨ f = 2 ∨ f = 3 ∨ f = 4 ∨ f = 5 ∨ f = 6 by omega) with h3 | h3 | h3 | h3 | h3 | h3 | h3 <;> subst h3 <;> simp
          · rw [if_neg (show ¬ i < i9 + 1 by omega)]
            repeat rw [if_neg (show ¬ (_ ∧ i = i9) by omega)]
            rw [if_neg h1]
      · show (if i < i9 + 1 then none else σ.2.1 i) = va_up (fun j => if j < i9 then none else σ.2.1 j) i9 none i
        simp only [va_up]
        by_cases h2 : i = i9
        · rw [if_pos h2, if_pos (by omega)]
        · rw [if_neg h2]
          by_cases h1 : i < i9
          · rw [if_pos h1, if_pos (by omega)]
          · rw [if_neg h1, if_neg (by omega)]
      · show (if i < i9 + 1 then [] else σ.2.2.1 i) = va_up (fun j => if j < i9 then [] else σ.2.2.1 j) i9 [] i
        simp only [va_up]
        by_cases h2 : i = i9
        · rw [if_pos h2, if_pos (by omega)]
        · rw [if_neg h2]
          by_cases h1 : i < i9
          · rw [if_pos h1, if_pos (by omega)]
          · rw [if_neg h1, if_neg (by omega)]
  refine lv_iconst (v := nI 0) hx hb dX4_init__0 (by decide) ?_
  refine lv_istore_n (lv' := [(1, .int (nI 0)), (0, .ref (ad 0 0))]) hx hb dX4_init__1 rfl hl (by decide) rfl (fun ls hl => ?_)
  exact hloop n 0 ls _ _ (by omega) (hC.congr (fun f i _ hi => by simp [q_ini]) (fun i hi => by simp [q_ini]) (fun i hi => by simp [q_ini]) (fun f t hf ht => rfl) rfl) hS (lv_sub hl [0, 1] rfl)
