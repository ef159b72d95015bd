/-! the class's public methods -/
def q_requestI (n k : Nat) (σ : qSt) (x : Int32) : Int32 × qSt := if q_node n x = true then q_request n k σ x.toNatClampNeg else (-1, σ)
def q_enterI (n k : Nat) (σ : qSt) (x : Int32) : Int32 × qSt := if q_node n x = true then q_enter n k σ x.toNatClampNeg else (0, σ)
def q_releaseI (n k : Nat) (σ : qSt) (x : Int32) : Int32 × qSt := if q_node n x = true then q_release n k σ x.toNatClampNeg else (-1, σ)
def q_deliverI (n : Nat) (σ : qSt) (x y : Int32) : Int32 × qSt := if q_node n x = true ∧ q_node n y = true then q_deliver n σ x.toNatClampNeg y.toNatClampNeg else (-1, σ)
def q_settleI (n : Nat) (σ : qSt) (x : Int32) : Int32 × qSt := if x < 1 ∨ 500 < x then (-1, σ) else (nI (q_settle n x.toNatClampNeg 0 σ).1, (q_settle n x.toNatClampNeg 0 σ).2)
def q_lockedI (n : Nat) (σ : qSt) (x : Int32) : Int32 := if q_node n x = true then q_on (σ.2.1 x.toNatClampNeg) else -1
def q_waitingI (n : Nat) (σ : qSt) (x y : Int32) : Int32 := if q_node n x = true ∧ q_node n y = true then nI (σ.2.2.2.1 x.toNatClampNeg y.toNatClampNeg).length else -1
def q_lookI (n : Nat) (σ : qSt) (x y m what : Int32) : Int32 := if q_node n x = true ∧ q_node n y = true then q_part (σ.2.2.2.1 x.toNatClampNeg y.toNatClampNeg) m what else -1
def q_told (σ : qSt) (i : Nat) (what : Int32) : Int32 :=
  if what = 0 then σ.1 1 i else if what = 1 then σ.1 0 i else if what = 2 then σ.1 2 i else if what = 3 then σ.1 4 i else if what = 4 then σ.1 5 i else if what = 5 then σ.1 3 i
  else if what = 6 then (if σ.1 6 i = 0 then 0 else 1) else if what = 7 then nI (σ.2.2.1 i).length else -1
def q_toldI (n : Nat) (σ : qSt) (x what : Int32) : Int32 := if q_node n x = true then q_told σ x.toNatClampNeg what else -1
def q_waitsI (n : Nat) (σ : qSt) (x m : Int32) : Int32 := if q_node n x = true then q_at (σ.2.2.1 x.toNatClampNeg) m else -1
theorem q_deliver_nil {n : Nat} {σ : qSt} {f t : Nat} (h : σ.2.2.2.1 f t = []) : q_deliver n σ f t = (0, σ) := by simp [q_deliver, h]
theorem q_deliver_cons {n : Nat} {σ : qSt} {f t : Nat} {x : qM} {w : List qM} (h : σ.2.2.2.1 f t = x :: w) : q_deliver n σ f t = (x.1, q_do n (s_wr (s_tb σ 0 t (q_max (σ.1 0 t) x.2.2 + 1)) f t w) t f x.1 x.2.1) := by simp [q_deliver, h]; rfl
theorem q_part0 {x : qM} {w : List qM} (h : w.length + 1 < 2 ^ 31) : q_part (x :: w) 0 0 = x.1 ∧ q_part (x :: w) 0 1 = x.2.1 ∧ q_part (x :: w) 0 2 = x.2.2 := by
  have h0 : ¬ ((0 : Int32) < 0 ∨ nI (x :: w).length ≤ 0) := by
    rintro (h9 | h9)
    · exact absurd h9 (by decide)
    · exact absurd h9 (nI_nle (by simp) (by simpa using h))
  refine ⟨?_, ?_, ?_⟩ <;> unfold q_part <;> rw [if_neg h0] <;> rfl
set_option maxHeartbeats 4000000 in
set_option maxRecDepth 100000 in
/-- X4_deliverOldest -/
theorem c_X4_deliverOldest (l : Launch) (dd : va_G) (ga : Nat → ClassId) (n k : Nat) (ad : Nat → Nat → Nat) (σ : qSt) (hsq : qSq n k) (hL : qL n ad) (f t : Nat) (hf : f < n) (ht : t < n) (hcap : qCap n k σ) : Met l yX4_deliverOldest wsX4_deliverOldest ({ frames := 5, cells := 0, slots := 0, locals := 123 }) (qPc dd ga [.ref (ad 0 0), .int (nI f), .int (nI t)] (fun H => qC dd ga n k ad σ H)) (qQi (fun v H => v = (q_deliver n σ f t).1 ∧ qC dd ga n k ad (q_deliver n σ f t).2 H) (qA n ad)) 0 0 (qA n ad) := by
  refine Met.ofW (cc := cX4_deliverOldest) (maxL := 5) (ret := (some .int)) (by decide) rfl ?_
  intro p e s m args below meth c s₁ B hml hv
  obtain ⟨rfl, hC, hK⟩ := hv
  have hx := B.exec
  have hb := B.bytes
  have hr := B.returns
  have hts := atoms_spec (ws := wsX4_deliverOldest) B.pre
  have hown : s.vm.findClass RX4 = some m.cls := findClass_of_methodNamed B.named
  have hlocks := B.notSynchronized
  have hS : qS (qA n ad) s.heap s.heap [] := qS.rf
  have hl := lv_entry ([.ref (ad 0 0), .int (nI f), .int (nI t)]) (n := 5) (Nat.le_of_ble_eq_true rfl)
  rw [lg_entry_eq]
  generalize (lg_sl ([.ref (ad 0 0), .int (nI f), .int (nI t)]) ++ List.replicate (5 - (lg_sl ([.ref (ad 0 0), .int (nI f), .int (nI t)])).length) Slot.unset).toArray = ls at hl ⊢
  have hin4 : ∀ w ∈ wsX40, w ∈ wsX4_deliverOldest := by decide +kernel
  have hn1 := hsq.n.1
  have hn16 := hsq.n.2
  rcases hw9 : σ.2.2.2.1 f t with _ | ⟨x9, w9⟩
  · refine lv_aload_n hx hb dX4_deliverOldest_0 rfl (lv_at hl 0 rfl) ?_
    refine qr_get (ci := 4) (C := RX4) (T := TX4) (N := 7) hx hb hts hin4 hown hK hC.self rfl 5 (by decide) (hts (.fieldLink RX4 46 "QuorumLock" "wires" "LQuorumLock$Wires;") (by decide +kernel)) rfl dX4_deliverOldest_1 ?_
    refine lv_iload_n hx hb dX4_deliverOldest_4 rfl (lv_at hl 1 rfl) ?_
    refine lv_iload_n hx hb dX4_deliverOldest_5 rfl (lv_at hl 2 rfl) ?_
    refine qc_i (va_runV (As := [.int (nI f), .int (nI t)]) (rest := []) ⟨hx, hb, hml, hown, hts⟩ (c_X3_count l dd ga n (ad 5 0) (ad 6 0) (ad 7 0) (ad 8 0) (ad 9 0) σ.2.2.2.1 f t hn16 hf ht) (cwV 2 hts gX4_deliverOldest_X3_count rfl rfl rfl (by decide +kernel) ⟨Nat.le_of_ble_eq_true rfl, Nat.le_of_ble_eq_true rfl⟩) (qpreV hK hC.wir hC.wir.obj rfl) rfl rfl hl.1 rfl (lv_room (Nat.le_of_ble_eq_true rfl)) dX4_deliverOldest_6 ⟨Nat.zero_le _, Nat.zero_le _⟩) hS (fun q h => h.elim) (fun v6 H locs hp9 hz9 ho9 hS => ?_)
    rw [hw9] at hp9
    subst hp9
    have hC := hC.same (fun q => ho9 q (fun h => h))
    refine lv_if_ne (tgt := 14) hx hb dX4_deliverOldest_9 (by decide) (fun c_9 => absurd (by rfl) c_9) (fun c_9 => ?_)
    refine lv_iconst (v := 0) hx hb dX4_deliverOldest_12 (by decide) ?_
    exact q_iret hx hb hr hlocks hS (⟨by rw [q_deliver_nil hw9], by rw [q_deliver_nil hw9]; exact hC⟩) dX4_deliverOldest_13
  · have hl6 := hcap.1 f t hf ht
    have hl6 : w9.length + 1 ≤ 6 := by rw [hw9] at hl6; exact hl6
    refine lv_aload_n hx hb dX4_deliverOldest_0 rfl (lv_at hl 0 rfl) ?_
    refine qr_get (ci := 4) (C := RX4) (T := TX4) (N := 7) hx hb hts hin4 hown hK hC.self rfl 5 (by decide) (hts (.fieldLink RX4 46 "QuorumLock" "wires" "LQuorumLock$Wires;") (by decide +kernel)) rfl dX4_deliverOldest_1 ?_
    refine lv_iload_n hx hb dX4_deliverOldest_4 rfl (lv_at hl 1 rfl) ?_
    refine lv_iload_n hx hb dX4_deliverOldest_5 rfl (lv_at hl 2 rfl) ?_
    refine qc_i (va_runV (As := [.int (nI f), .int (nI t)]) (rest := []) ⟨hx, hb, hml, hown, hts⟩ (c_X3_count l dd ga n (ad 5 0) (ad 6 0) (ad 7 0) (ad 8 0) (ad 9 0) σ.2.2.2.1 f t hn16 hf ht) (cwV 2 hts gX4_deliverOldest_X3_count rfl rfl rfl (by decide +kernel) ⟨Nat.le_of_ble_eq_true rfl, Nat.le_of_ble_eq_true rfl⟩) (qpreV hK hC.wir hC.wir.obj rfl) rfl rfl hl.1 rfl (lv_room (Nat.le_of_ble_eq_true rfl)) dX4_deliverOldest_6 ⟨Nat.zero_le _, Nat.zero_le _⟩) hS (fun q h => h.elim) (fun v6 H locs hp9 hz9 ho9 hS => ?_)
    rw [hw9] at hp9
    subst hp9
    have hC := hC.same (fun q => ho9 q (fun h => h))
    refine lv_if_ne (tgt := 14) hx hb dX4_deliverOldest_9 (by decide) (fun c_9 => ?_) (fun c_9 => absurd c_9 (nI_ne0 (by simp) (by simp; omega)))
    refine lv_aload_n hx hb dX4_deliverOldest_14 rfl (lv_at hl 0 rfl) ?_
    refine qr_get (ci := 4) (C := RX4) (T := TX4) (N := 7) hx hb hts hin4 hown hK hC.self rfl 5 (by decide) (hts (.fieldLink RX4 46 "QuorumLock" "wires" "LQuorumLock$Wires;") (by decide +kernel)) rfl dX4_deliverOldest_15 ?_
    refine lv_iload_n hx hb dX4_deliverOldest_18 rfl (lv_at hl 1 rfl) ?_
    refine lv_iload_n hx hb dX4_deliverOldest_19 rfl (lv_at hl 2 rfl) ?_
    refine lv_iconst (v := 0) hx hb dX4_deliverOldest_20 (by decide) ?_
    refine lv_iconst (v := 0) hx hb dX4_deliverOldest_21 (by decide) ?_
    refine qc_i (va_runV (As := [.int (nI f), .int (nI t), .int 0, .int 0]) (rest := []) ⟨hx, hb, hml, hown, hts⟩ (c_X3_part l dd ga n (ad 5 0) (ad 6 0) (ad 7 0) (ad 8 0) (ad 9 0) σ.2.2.2.1 f t hn16 hf ht 0 0) (cwV 4 hts gX4_deliverOldest_X3_part rfl rfl rfl (by decide +kernel) ⟨Nat.le_of_ble_eq_true rfl, Nat.le_of_ble_eq_true rfl⟩) (qpreV hK hC.wir hC.wir.obj rfl) rfl rfl hl.1 rfl (lv_room (Nat.le_of_ble_eq_true rfl)) dX4_deliverOldest_22 ⟨Nat.zero_le _, Nat.zero_le _⟩) hS (fun q h => h.elim) (fun v22 H locs hp9 hz9 ho9 hS => ?_)
    rw [hw9, (q_part0 (by omega)).1] at hp9
    subst hp9
    have hC := hC.same (fun q => ho9 q (fun h => h))
    refine lv_istore_n (lv' := [(3, .int x9.1), (0, .ref (ad 0 0)), (1, .int (nI f)), (2, .int (nI t))]) hx hb dX4_deliverOldest_25 rfl hl (by decide) rfl (fun ls hl => ?_)
    refine lv_aload_n hx hb dX4_deliverOldest_26 rfl (lv_at hl 1 rfl) ?_
    refine qr_get (ci := 4) (C := RX4) (T := TX4) (N := 7) hx hb hts hin4 hown hK hC.self rfl 5 (by decide) (hts (.fieldLink RX4 46 "QuorumLock" "wires" "LQuorumLock$Wires;") (by decide +kernel)) rfl dX4_deliverOldest_27 ?_
    refine lv_iload_n hx hb dX4_deliverOldest_30 rfl (lv_at hl 2 rfl) ?_
    refine lv_iload_n hx hb dX4_deliverOldest_31 rfl (lv_at hl 3 rfl) ?_
    refine lv_iconst (v := 0) hx hb dX4_deliverOldest_32 (by decide) ?_
    refine lv_iconst (v := 1) hx hb dX4_deliverOldest_33 (by decide) ?_
    refine qc_i (va_runV (As := [.int (nI f), .int (nI t), .int 0, .int 1]) (rest := []) ⟨hx, hb, hml, hown, hts⟩ (c_X3_part l dd ga n (ad 5 0) (ad 6 0) (ad 7 0) (ad 8 0) (ad 9 0) σ.2.2.2.1 f t hn16 hf ht 0 1) (cwV 4 hts gX4_deliverOldest_X3_part rfl rfl rfl (by decide +kernel) ⟨Nat.le_of_ble_eq_true rfl, Nat.le_of_ble_eq_true rfl⟩) (qpreV hK hC.wir hC.wir.obj rfl) rfl rfl hl.1 rfl (lv_room (Nat.le_of_ble_eq_true rfl)) dX4_deliverOldest_34 ⟨Nat.zero_le _, Nat.zero_le _⟩) hS (fun q h => h.elim) (fun v34 H locs hp9 hz9 ho9 hS => ?_)
    rw [hw9, (q_part0 (by omega)).2.1] at hp9
    subst hp9
    have hC := hC.same (fun q => ho9 q (fun h => h))
    refine lv_istore (lv' := [(4, .int x9.2.1), (3, .int x9.1), (0, .ref (ad 0 0)), (1, .int (nI f)), (2, .int (nI t))]) hx hb dX4_deliverOldest_37 hl (by decide) rfl (fun ls hl => ?_)
    refine lv_aload_n hx hb dX4_deliverOldest_39 rfl (lv_at hl 2 rfl) ?_
    refine qr_get (ci := 4) (C := RX4) (T := TX4) (N := 7) hx hb hts hin4 hown hK hC.self rfl 2 (by decide) (hts (.fieldLink RX4 26 "QuorumLock" "clocks" "[I") (by decide +kernel)) rfl dX4_deliverOldest_40 ?_
    refine lv_iload_n hx hb dX4_deliverOldest_43 rfl (lv_at hl 4 rfl) ?_
    refine lv_aload_n hx hb dX4_deliverOldest_44 rfl (lv_at hl 2 rfl) ?_
    refine qr_get (ci := 4) (C := RX4) (T := TX4) (N := 7) hx hb hts hin4 hown hK hC.self rfl 2 (by decide) (hts (.fieldLink RX4 26 "QuorumLock" "clocks" "[I") (by decide +kernel)) rfl dX4_deliverOldest_45 ?_
    refine lv_iload_n hx hb dX4_deliverOldest_48 rfl (lv_at hl 4 rfl) ?_
    refine qr_iald (v := (σ.1 0 t)) hx hb hK hC.clk t (by omega) (by omega) rfl rfl dX4_deliverOldest_49 ?_
    refine lv_aload_n hx hb dX4_deliverOldest_50 rfl (lv_at hl 2 rfl) ?_
    refine qr_get (ci := 4) (C := RX4) (T := TX4) (N := 7) hx hb hts hin4 hown hK hC.self rfl 5 (by decide) (hts (.fieldLink RX4 46 "QuorumLock" "wires" "LQuorumLock$Wires;") (by decide +kernel)) rfl dX4_deliverOldest_51 ?_
    refine lv_iload_n hx hb dX4_deliverOldest_54 rfl (lv_at hl 3 rfl) ?_
    refine lv_iload_n hx hb dX4_deliverOldest_55 rfl (lv_at hl 4 rfl) ?_
    refine lv_iconst (v := 0) hx hb dX4_deliverOldest_56 (by decide) ?_
    refine lv_iconst (v := 2) hx hb dX4_deliverOldest_57 (by decide) ?_
    refine qc_i (va_runV (As := [.int (nI f), .int (nI t), .int 0, .int 2]) (rest := [.int (σ.1 0 t), .int (nI t), .ref (ad 2 0)]) ⟨hx, hb, hml, hown, hts⟩ (c_X3_part l dd ga n (ad 5 0) (ad 6 0) (ad 7 0) (ad 8 0) (ad 9 0) σ.2.2.2.1 f t hn16 hf ht 0 2) (cwV 4 hts gX4_deliverOldest_X3_part rfl rfl rfl (by decide +kernel) ⟨Nat.le_of_ble_eq_true rfl, Nat.le_of_ble_eq_true rfl⟩) (qpreV hK hC.wir hC.wir.obj rfl) rfl rfl hl.1 rfl (lv_room (Nat.le_of_ble_eq_true rfl)) dX4_deliverOldest_58 ⟨Nat.zero_le _, Nat.zero_le _⟩) hS (fun q h => h.elim) (fun v58 H locs hp9 hz9 ho9 hS => ?_)
    rw [hw9, (q_part0 (by omega)).2.2] at hp9
    subst hp9
    have hC := hC.same (fun q => ho9 q (fun h => h))
    refine va_mmax (x := (σ.1 0 t)) (y := x9.2.2) hx hb (by rw [hml]; exact hl.1.symm) hown (hts (.methodLink RX4 7 Lib.Math.max.name) (by decide +kernel)) (hts (.static Lib.Math.max.name) (by decide +kernel)) (hts (.initialized "java/lang/Math") (by decide +kernel)) (hts (.code Lib.Math.max.name Lib.Math.max.code 2 (some .int)) (by decide +kernel)) (Nat.le_of_ble_eq_true rfl) (Nat.le_of_ble_eq_true rfl) (Nat.zero_le _) (Nat.zero_le _) dX4_deliverOldest_61 ?_
    refine q_ti (y := q_max (σ.1 0 t) x9.2.2) (rfl) ?_
    refine lv_iconst (v := 1) hx hb dX4_deliverOldest_64 (by decide) ?_
    refine lv_iadd hx hb dX4_deliverOldest_65 ?_
    refine qr_iast hx hb hK hC.clk hS (⟨2, 0, qd.z (by decide), rfl⟩) t (by omega) (by omega) rfl dX4_deliverOldest_66 (fun H locs hz9 ho9 hat9 hS => ?_)
    have hC := hC.putClk (σ' := s_tb σ 0 t (q_max (σ.1 0 t) x9.2.2 + 1)) hL ho9 (by have h9 : ((s_tb σ 0 t (q_max (σ.1 0 t) x9.2.2 + 1)).1 0) = upd (σ.1 0) t (q_max (σ.1 0 t) x9.2.2 + 1) := (by funext j; by_cases h : j = t <;> simp [s_tb, q2, upd, h]); rw [h9]; exact hat9) (fun f j h => q2_n (by omega)) rfl
    refine lv_aload_n hx hb dX4_deliverOldest_67 rfl (lv_at hl 2 rfl) ?_
    refine qr_get (ci := 4) (C := RX4) (T := TX4) (N := 7) hx hb hts hin4 hown hK hC.self rfl 5 (by decide) (hts (.fieldLink RX4 46 "QuorumLock" "wires" "LQuorumLock$Wires;") (by decide +kernel)) rfl dX4_deliverOldest_68 ?_
    refine lv_iload_n hx hb dX4_deliverOldest_71 rfl (lv_at hl 3 rfl) ?_
    refine lv_iload_n hx hb dX4_deliverOldest_72 rfl (lv_at hl 4 rfl) ?_
    refine qc_v (va_runV (As := [.int (nI f), .int (nI t)]) (rest := []) ⟨hx, hb, hml, hown, hts⟩ (c_X3_dropOldest l dd ga n (ad 5 0) (ad 6 0) (ad 7 0) (ad 8 0) (ad 9 0) (hL.ne (qd.z (by decide)) (qd.z (by decide)) (by decide)) (hL.ne (qd.z (by decide)) (qd.z (by decide)) (by decide)) (hL.ne (qd.z (by decide)) (qd.z (by decide)) (by decide)) (hL.ne (qd.z (by decide)) (qd.z (by decide)) (by decide)) (hL.ne (qd.z (by decide)) (qd.z (by decide)) (by decide)) (hL.ne (qd.z (by decide)) (qd.z (by decide)) (by decide)) (hL.ne (qd.z (by decide)) (qd.z (by decide)) (by decide)) (hL.ne (qd.z (by decide)) (qd.z (by decide)) (by decide)) (hL.ne (qd.z (by decide)) (qd.z (by decide)) (by decide)) (hL.ne (qd.z (by decide)) (qd.z (by decide)) (by decide)) (s_tb σ 0 t (q_max (σ.1 0 t) x9.2.2 + 1)).2.2.2.1 f t hn16 hf ht x9 w9 hw9) (cwV 2 hts gX4_deliverOldest_X3_dropOldest rfl rfl rfl (by decide +kernel) ⟨Nat.le_of_ble_eq_true rfl, Nat.le_of_ble_eq_true rfl⟩) (qpreV hK hC.wir hC.wir.obj rfl) rfl rfl hl.1 rfl (lv_room (Nat.le_of_ble_eq_true rfl)) dX4_deliverOldest_73 ⟨Nat.zero_le _, Nat.zero_le _⟩) hS (fun q h => qA.wir h) (fun H locs hp9 hz9 ho9 hS => ?_)
    have hC := hC.putWir (σ' := s_wr (s_tb σ 0 t (q_max (σ.1 0 t) x9.2.2 + 1)) f t w9) hL ho9 hp9 rfl rfl rfl rfl
    have hcap2 := hcap.pop hw9 (q_max (σ.1 0 t) x9.2.2 + 1)
    refine lv_iload_n hx hb dX4_deliverOldest_76 rfl (lv_at hl 1 rfl) ?_
    by_cases hk1 : x9.1 = 1
    · refine q_ti (y := 1) hk1 ?_
      refine lv_tableIn (tgt := 112) hx hb dX4_deliverOldest_77 (by decide) (by decide) rfl (by decide) ?_
      refine lv_aload_n hx hb dX4_deliverOldest_112 rfl (lv_at hl 2 rfl) ?_
      refine lv_iload_n hx hb dX4_deliverOldest_113 rfl (lv_at hl 4 rfl) ?_
      refine lv_iload_n hx hb dX4_deliverOldest_114 rfl (lv_at hl 3 rfl) ?_
      refine lv_iload hx hb dX4_deliverOldest_115 (lv_at hl 0 rfl) ?_
      refine qc_v (va_runV (As := [.int (nI t), .int (nI f), .int x9.2.1]) (rest := []) ⟨hx, hb, hml, hown, hts⟩ (c_X4_weighRequest l dd ga n k ad (s_wr (s_tb σ 0 t (q_max (σ.1 0 t) x9.2.2 + 1)) f t w9) hsq hL t f ht hf x9.2.1 hcap2) (cwV 3 hts gX4_deliverOldest_X4_weighRequest rfl rfl rfl (by decide +kernel) ⟨Nat.le_of_ble_eq_true rfl, Nat.le_of_ble_eq_true rfl⟩) (qpreV hK hC hC.self rfl) rfl rfl hl.1 rfl (lv_room (Nat.le_of_ble_eq_true rfl)) dX4_deliverOldest_117 ⟨Nat.zero_le _, Nat.zero_le _⟩) hS (fun q h => h) (fun H locs hp9 hz9 ho9 hS => ?_)
      have hfin : qC dd ga n k ad (q_deliver n σ f t).2 H := by rw [q_deliver_cons hw9]; simp only [q_do, if_pos hk1]; exact hp9
      refine lv_goto (tgt := 177) hx hb dX4_deliverOldest_120 (by decide) ?_
      refine lv_iload_n hx hb dX4_deliverOldest_177 rfl (lv_at hl 1 rfl) ?_
      exact q_iret hx hb hr hlocks hS (⟨by rw [q_deliver_cons hw9], hfin⟩) dX4_deliverOldest_178
    · by_cases hk2 : x9.1 = 2
      · refine q_ti (y := 2) hk2 ?_
        refine lv_tableIn (tgt := 123) hx hb dX4_deliverOldest_77 (by decide) (by decide) rfl (by decide) ?_
        refine lv_aload_n hx hb dX4_deliverOldest_123 rfl (lv_at hl 2 rfl) ?_
        refine lv_iload_n hx hb dX4_deliverOldest_124 rfl (lv_at hl 4 rfl) ?_
        refine lv_iload_n hx hb dX4_deliverOldest_125 rfl (lv_at hl 3 rfl) ?_
        refine lv_iload hx hb dX4_deliverOldest_126 (lv_at hl 0 rfl) ?_
        refine qc_v (va_runV (As := [.int (nI t), .int (nI f), .int x9.2.1]) (rest := []) ⟨hx, hb, hml, hown, hts⟩ (c_X4_hearLocked l dd ga n k ad (s_wr (s_tb σ 0 t (q_max (σ.1 0 t) x9.2.2 + 1)) f t w9) hsq hL t f ht hf x9.2.1) (cwV 3 hts gX4_deliverOldest_X4_hearLocked rfl rfl rfl (by decide +kernel) ⟨Nat.le_of_ble_eq_true rfl, Nat.le_of_ble_eq_true rfl⟩) (qpreV hK hC hC.self rfl) rfl rfl hl.1 rfl (lv_room (Nat.le_of_ble_eq_true rfl)) dX4_deliverOldest_128 ⟨Nat.zero_le _, Nat.zero_le _⟩) hS (fun q h => h) (fun H locs hp9 hz9 ho9 hS => ?_)
        have hfin : qC dd ga n k ad (q_deliver n σ f t).2 H := by rw [q_deliver_cons hw9]; simp only [q_do, if_neg hk1, if_pos hk2]; exact hp9
        refine lv_goto (tgt := 177) hx hb dX4_deliverOldest_131 (by decide) ?_
        refine lv_iload_n hx hb dX4_deliverOldest_177 rfl (lv_at hl 1 rfl) ?_
        exact q_iret hx hb hr hlocks hS (⟨by rw [q_deliver_cons hw9], hfin⟩) dX4_deliverOldest_178
      · by_cases hk3 : x9.1 = 3
        · refine q_ti (y := 3) hk3 ?_
          refine lv_tableIn (tgt := 134) hx hb dX4_deliverOldest_77 (by decide) (by decide) rfl (by decide) ?_
          refine lv_aload_n hx hb dX4_deliverOldest_134 rfl (lv_at hl 2 rfl) ?_
          refine lv_iload_n hx hb dX4_deliverOldest_135 rfl (lv_at hl 4 rfl) ?_
          refine lv_iload_n hx hb dX4_deliverOldest_136 rfl (lv_at hl 3 rfl) ?_
          refine lv_iload hx hb dX4_deliverOldest_137 (lv_at hl 0 rfl) ?_
          refine lv_iconst (v := 0) hx hb dX4_deliverOldest_139 (by decide) ?_
          refine qc_v (va_runV (As := [.int (nI t), .int (nI f), .int x9.2.1, .int 0]) (rest := []) ⟨hx, hb, hml, hown, hts⟩ (c_X4_takeVoteBack0 l dd ga n k ad (s_wr (s_tb σ 0 t (q_max (σ.1 0 t) x9.2.2 + 1)) f t w9) hsq hL t f ht hf x9.2.1 hcap2) (cwV 4 hts gX4_deliverOldest_X4_takeVoteBack rfl rfl rfl (by decide +kernel) ⟨Nat.le_of_ble_eq_true rfl, Nat.le_of_ble_eq_true rfl⟩) (qpreV hK hC hC.self rfl) rfl rfl hl.1 rfl (lv_room (Nat.le_of_ble_eq_true rfl)) dX4_deliverOldest_140 ⟨Nat.zero_le _, Nat.zero_le _⟩) hS (fun q h => h) (fun H locs hp9 hz9 ho9 hS => ?_)
          have hfin : qC dd ga n k ad (q_deliver n σ f t).2 H := by rw [q_deliver_cons hw9]; simp only [q_do, if_neg hk1, if_neg hk2, if_pos hk3]; exact hp9
          refine lv_goto (tgt := 177) hx hb dX4_deliverOldest_143 (by decide) ?_
          refine lv_iload_n hx hb dX4_deliverOldest_177 rfl (lv_at hl 1 rfl) ?_
          exact q_iret hx hb hr hlocks hS (⟨by rw [q_deliver_cons hw9], hfin⟩) dX4_deliverOldest_178
        · by_cases hk4 : x9.1 = 4
          · refine q_ti (y := 4) hk4 ?_
            refine lv_tableIn (tgt := 146) hx hb dX4_deliverOldest_77 (by decide) (by decide) rfl (by decide) ?_
            refine lv_aload_n hx hb dX4_deliverOldest_146 rfl (lv_at hl 2 rfl) ?_
            refine lv_iload_n hx hb dX4_deliverOldest_147 rfl (lv_at hl 4 rfl) ?_
            refine lv_iload_n hx hb dX4_deliverOldest_148 rfl (lv_at hl 3 rfl) ?_
            refine lv_iload hx hb dX4_deliverOldest_149 (lv_at hl 0 rfl) ?_
            refine qc_v (va_runV (As := [.int (nI t), .int (nI f), .int x9.2.1]) (rest := []) ⟨hx, hb, hml, hown, hts⟩ (c_X4_hearInquire l dd ga n k ad (s_wr (s_tb σ 0 t (q_max (σ.1 0 t) x9.2.2 + 1)) f t w9) hsq hL t f ht hf x9.2.1 (by have h9 := hcap2.1 t f ht hf; omega)) (cwV 3 hts gX4_deliverOldest_X4_hearInquire rfl rfl rfl (by decide +kernel) ⟨Nat.le_of_ble_eq_true rfl, Nat.le_of_ble_eq_true rfl⟩) (qpreV hK hC hC.self rfl) rfl rfl hl.1 rfl (lv_room (Nat.le_of_ble_eq_true rfl)) dX4_deliverOldest_151 ⟨Nat.zero_le _, Nat.zero_le _⟩) hS (fun q h => h) (fun H locs hp9 hz9 ho9 hS => ?_)
            have hfin : qC dd ga n k ad (q_deliver n σ f t).2 H := by rw [q_deliver_cons hw9]; simp only [q_do, if_neg hk1, if_neg hk2, if_neg hk3, if_pos hk4]; exact hp9
            refine lv_goto (tgt := 177) hx hb dX4_deliverOldest_154 (by decide) ?_
            refine lv_iload_n hx hb dX4_deliverOldest_177 rfl (lv_at hl 1 rfl) ?_
            exact q_iret hx hb hr hlocks hS (⟨by rw [q_deliver_cons hw9], hfin⟩) dX4_deliverOldest_178
          · by_cases hk5 : x9.1 = 5
            · refine q_ti (y := 5) hk5 ?_
              refine lv_tableIn (tgt := 157) hx hb dX4_deliverOldest_77 (by decide) (by decide) rfl (by decide) ?_
              refine lv_aload_n hx hb dX4_deliverOldest_157 rfl (lv_at hl 2 rfl) ?_
              refine lv_iload_n hx hb dX4_deliverOldest_158 rfl (lv_at hl 4 rfl) ?_
              refine lv_iload_n hx hb dX4_deliverOldest_159 rfl (lv_at hl 3 rfl) ?_
              refine lv_iload hx hb dX4_deliverOldest_160 (lv_at hl 0 rfl) ?_
              refine lv_iconst (v := 1) hx hb dX4_deliverOldest_162 (by decide) ?_
              refine qc_v (va_runV (As := [.int (nI t), .int (nI f), .int x9.2.1, .int 1]) (rest := []) ⟨hx, hb, hml, hown, hts⟩ (c_X4_takeVoteBack1 l dd ga n k ad (s_wr (s_tb σ 0 t (q_max (σ.1 0 t) x9.2.2 + 1)) f t w9) hsq hL t f ht hf x9.2.1 hcap2) (cwV 4 hts gX4_deliverOldest_X4_takeVoteBack rfl rfl rfl (by decide +kernel) ⟨Nat.le_of_ble_eq_true rfl, Nat.le_of_ble_eq_true rfl⟩) (qpreV hK hC hC.self rfl) rfl rfl hl.1 rfl (lv_room (Nat.le_of_ble_eq_true rfl)) dX4_deliverOldest_163 ⟨Nat.zero_le _, Nat.zero_le _⟩) hS (fun q h => h) (fun H locs hp9 hz9 ho9 hS => ?_)
              have hfin : qC dd ga n k ad (q_deliver n σ f t).2 H := by rw [q_deliver_cons hw9]; simp only [q_do, if_neg hk1, if_neg hk2, if_neg hk3, if_neg hk4, if_pos hk5]; exact hp9
              refine lv_goto (tgt := 177) hx hb dX4_deliverOldest_166 (by decide) ?_
              refine lv_iload_n hx hb dX4_deliverOldest_177 rfl (lv_at hl 1 rfl) ?_
              exact q_iret hx hb hr hlocks hS (⟨by rw [q_deliver_cons hw9], hfin⟩) dX4_deliverOldest_178
            · refine lv_tableOut (tgt := 169) hx hb dX4_deliverOldest_77 (q_sw hk1 hk2 hk3 hk4 hk5) (by decide) ?_
              refine lv_aload_n hx hb dX4_deliverOldest_169 rfl (lv_at hl 2 rfl) ?_
              refine lv_iload_n hx hb dX4_deliverOldest_170 rfl (lv_at hl 4 rfl) ?_
              refine lv_iload_n hx hb dX4_deliverOldest_171 rfl (lv_at hl 3 rfl) ?_
              refine lv_iload hx hb dX4_deliverOldest_172 (lv_at hl 0 rfl) ?_
              refine qc_v (va_runV (As := [.int (nI t), .int (nI f), .int x9.2.1]) (rest := []) ⟨hx, hb, hml, hown, hts⟩ (c_X4_hearFailed l dd ga n k ad (s_wr (s_tb σ 0 t (q_max (σ.1 0 t) x9.2.2 + 1)) f t w9) hsq hL t f ht hf x9.2.1 (fun t9 h9 => hcap2.1 t t9 ht h9)) (cwV 3 hts gX4_deliverOldest_X4_hearFailed rfl rfl rfl (by decide +kernel) ⟨Nat.le_of_ble_eq_true rfl, Nat.le_of_ble_eq_true rfl⟩) (qpreV hK hC hC.self rfl) rfl rfl hl.1 rfl (lv_room (Nat.le_of_ble_eq_true rfl)) dX4_deliverOldest_174 ⟨Nat.zero_le _, Nat.zero_le _⟩) hS (fun q h => h) (fun H locs hp9 hz9 ho9 hS => ?_)
              have hfin : qC dd ga n k ad (q_deliver n σ f t).2 H := by rw [q_deliver_cons hw9]; simp only [q_do, if_neg hk1, if_neg hk2, if_neg hk3, if_neg hk4, if_neg hk5]; exact hp9
              refine lv_iload_n hx hb dX4_deliverOldest_177 rfl (lv_at hl 1 rfl) ?_
              exact q_iret hx hb hr hlocks hS (⟨by rw [q_deliver_cons hw9], hfin⟩) dX4_deliverOldest_178
